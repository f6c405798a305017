import java.io.IOException;
import java.lang.reflect.Constructor;
import java.lang.reflect.Field;
import java.lang.reflect.Method;
import java.lang.reflect.Modifier;
import java.nio.file.Files;
import java.nio.file.Path;
import java.util.Arrays;
import java.util.Set;
import java.util.TreeSet;
import java.util.regex.Matcher;
import java.util.regex.Pattern;
import java.util.stream.Collectors;

/** The public face is the document's and no more. */
final class FaceTest {
    private static final String I = "IllegalArgumentException";
    private static final String S = "IllegalStateException";
    private static final String X = "IndexOutOfBoundsException";

    static void faceIsTheDocuments() {
        Set<String> due = new TreeSet<>(Set.of(
            "int stall 4 " + I + " " + S, "int plug 2 " + X + " " + I + " " + S, "int pull 1 " + X + " " + S,
            "int shed 1 " + X, "int bound 2 " + I, "int reset 1 " + I + " " + S, "int over 1 " + I,
            "int pass 1 " + I + " " + S, "int set 2 " + X + " " + I, "int append 1 " + I + " " + S,
            "int clearBuffer 0", "int firstError 0", "int open 0 " + I, "int keep 1 " + I,
            "int goBack 1 " + I + " " + S, "int undo 0 " + S, "int stallOf 2 " + X + " " + I,
            "int breaker 2 " + I, "int socket 2 " + I, "int count 1 " + I, "int setting 1 " + X,
            "int ifPlugged 4 " + X + " " + I, "int tripsIn 1 " + I, "int bestSocket 1 " + X,
            "int leastBound 1 " + I, "double servedShare 0", "long digest 0"));
        Set<String> got = new TreeSet<>();
        for (Method method : MarketSockets.class.getDeclaredMethods()) {
            if (Modifier.isPrivate(method.getModifiers())) {
                continue;
            }
            got.add(told(method));
            Check.isTrue(method.getName() + " is public alone", method.getModifiers() == Modifier.PUBLIC);
            Check.isTrue(method.getName() + " takes ints",
                    Arrays.stream(method.getParameterTypes()).allMatch(type -> type == int.class));
        }
        Check.isTrue("methods " + got, got.equals(due));
    }

    /** The names of the arguments and the order of the exceptions, too. */
    static void faceIsWordedAsInTheDocument() throws IOException {
        Matcher block = Pattern.compile("(?s)## The public face\\s+```java(.*?)```")
                .matcher(Files.readString(Path.of("..", "shared", "DOC.md")));
        Check.isTrue("the document has a face", block.find());
        String program = Files.readString(LanguageTest.SOURCE).replaceAll("\\s+", " ");
        int members = 0;
        for (String line : block.group(1).split("\n")) {
            String member = line.strip();
            if (member.startsWith("public") && member.endsWith(";")) {
                members++;
                String due = member.endsWith(");") || member.contains(" throws ")
                        ? member.replace(";", " {") : member;
                Check.isTrue("the program has " + due, program.contains(" " + due));
            }
        }
        Check.same("members of the face", 29, members);
    }

    static void hiddenMethodsHaveNamesOfTheirOwn() {
        Set<String> names = new TreeSet<>();
        for (Method method : MarketSockets.class.getMethods()) {
            names.add(method.getName());
        }
        expectOtherNames(MarketSockets.class, names);
        for (Class<?> inside : MarketSockets.class.getDeclaredClasses()) {
            Check.isTrue(inside + " is static and private",
                    Modifier.isStatic(inside.getModifiers()) && Modifier.isPrivate(inside.getModifiers()));
            expectOtherNames(inside, names);
        }
    }

    private static void expectOtherNames(Class<?> type, Set<String> names) {
        for (Method method : type.getDeclaredMethods()) {
            Check.isTrue(type + " hides " + method.getName(),
                    Modifier.isPublic(method.getModifiers()) || !names.contains(method.getName()));
        }
    }

    static void faceHasOneConstructorAndOneConstant() throws ReflectiveOperationException {
        Check.same("modifiers", Modifier.PUBLIC | Modifier.FINAL, MarketSockets.class.getModifiers());
        Constructor<?>[] made = MarketSockets.class.getDeclaredConstructors();
        Check.same("constructors", 1, made.length);
        Check.isTrue("constructor", made[0].getModifiers() == Modifier.PUBLIC && made[0].getParameterCount() == 0);
        for (Field field : MarketSockets.class.getDeclaredFields()) {
            boolean isNone = field.getName().equals("NONE");
            Check.isTrue(field.getName(), isNone != Modifier.isPrivate(field.getModifiers()));
            Check.isTrue(field.getName() + " is final", Modifier.isFinal(field.getModifiers()));
        }
        Check.same("NONE", -1, MarketSockets.class.getField("NONE").getInt(null));
    }

    private static String told(Method method) {
        String thrown = Arrays.stream(method.getExceptionTypes()).map(type -> " " + type.getSimpleName())
                .collect(Collectors.joining());
        return method.getReturnType() + " " + method.getName() + " " + method.getParameterCount() + thrown;
    }
}
