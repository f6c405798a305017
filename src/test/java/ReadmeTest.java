import java.io.IOException;
import java.lang.reflect.Method;
import java.lang.reflect.Modifier;
import java.net.URL;
import java.net.URLClassLoader;
import java.nio.file.Files;
import java.nio.file.Path;
import java.util.ArrayList;
import java.util.Arrays;
import java.util.List;
import java.util.Set;
import java.util.TreeSet;
import java.util.regex.Matcher;
import java.util.regex.Pattern;
import java.util.stream.Collectors;
import javax.tools.ToolProvider;

/** What README.md says of the class is so. */
final class ReadmeTest {
    private static final Path README = Path.of("README.md");
    private static final Pattern BLOCK = Pattern.compile("(?s)```java\n(.*?)```");
    /** A call, into a variable or not, and its answer behind //. */
    private static final Pattern ANSWERED = Pattern.compile("\\s*(int \\w+ = )?(market\\..*\\)); +// (-?\\d+): .*");
    private static final Pattern ROW = Pattern.compile("\\| `(\\w+)\\((.*)\\)` \\| (.*) \\|");
    private static final Pattern THROWN = Pattern.compile("`(\\w+)`");

    /** The calls of the page are made, one after the other, on one object. */
    static void callsAnswerAsThePageShows() throws IOException, ReflectiveOperationException {
        StringBuilder body = new StringBuilder();
        List<String> calls = new ArrayList<>();
        List<Long> due = new ArrayList<>();
        Matcher block = BLOCK.matcher(Files.readString(README));
        while (block.find()) {
            for (String line : block.group(1).split("\n")) {
                Matcher answered = ANSWERED.matcher(line);
                if (answered.matches()) {
                    String kept = "k" + calls.size();
                    calls.add(answered.group(2));
                    due.add(Long.valueOf(answered.group(3)));
                    body.append("long ").append(kept).append(" = ").append(answered.group(2)).append("; got.add(")
                            .append(kept).append(");\n");
                    if (answered.group(1) != null) {
                        body.append(answered.group(1)).append("(int) ").append(kept).append(";\n");
                    }
                } else {
                    body.append(line).append('\n');
                }
            }
        }
        Check.isTrue("calls with answers on the page: " + calls.size(), calls.size() >= 15);
        List<?> got = answersOf(body.toString());
        for (int k = 0; k < Math.min(calls.size(), got.size()); k++) {
            Check.isTrue(calls.get(k) + " answered " + got.get(k) + ", the page has " + due.get(k),
                    due.get(k).equals(got.get(k)));
        }
        Check.same("calls that were made", calls.size(), got.size());
    }

    static void eachCallThrowsWhatThePageSays() throws IOException {
        Set<String> due = new TreeSet<>();
        for (Method method : MarketSockets.class.getDeclaredMethods()) {
            if (Modifier.isPublic(method.getModifiers()) && method.getExceptionTypes().length > 0) {
                due.add(method.getName() + " " + method.getParameterCount() + " " + Arrays
                        .stream(method.getExceptionTypes()).map(Class::getSimpleName).collect(Collectors.toList()));
            }
        }
        Set<String> got = new TreeSet<>();
        for (String line : Files.readAllLines(README)) {
            Matcher row = ROW.matcher(line);
            if (row.matches()) {
                int arguments = row.group(2).isEmpty() ? 0 : row.group(2).split(",").length;
                List<String> thrown = THROWN.matcher(row.group(3)).results().map(found -> found.group(1))
                        .collect(Collectors.toList());
                got.add(row.group(1) + " " + arguments + " " + thrown);
            }
        }
        Check.isTrue("the page has " + got + ", due is " + due, got.equals(due));
    }

    /** What the lines put into the list got. */
    private static List<?> answersOf(String body) throws IOException, ReflectiveOperationException {
        Path folder = Files.createTempDirectory("readme");
        Path source = folder.resolve("Shown.java");
        try {
            Files.writeString(source, "public final class Shown {\n"
                    + "public static java.util.List<Long> answers() {\n"
                    + "java.util.List<Long> got = new java.util.ArrayList<>();\n" + body + "return got;\n}\n}\n");
            int failed = ToolProvider.getSystemJavaCompiler().run(null, null, null, "-encoding", "UTF-8", "-cp",
                    System.getProperty("java.class.path"), "-d", folder.toString(), source.toString());
            Check.same("exit code of javac", 0, failed);
            try (URLClassLoader loader = new URLClassLoader(new URL[] {folder.toUri().toURL()})) {
                return (List<?>) loader.loadClass("Shown").getMethod("answers").invoke(null);
            }
        } finally {
            Files.deleteIfExists(source);
            Files.deleteIfExists(folder.resolve("Shown.class"));
            Files.deleteIfExists(folder);
        }
    }
}
