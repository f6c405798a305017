import java.lang.reflect.InvocationTargetException;
import java.lang.reflect.Method;
import java.lang.reflect.Modifier;
import java.util.Arrays;
import java.util.Comparator;
import java.util.Set;
import java.util.TreeSet;
import java.util.regex.Matcher;
import java.util.regex.Pattern;

/** Runs each static method without parameters of the test classes; exit code 1 if one fails. */
public final class AllTests {
    static final Class<?>[] CLASSES = {LookTest.class, StallTest.class, BreakerTest.class, TextTest.class,
        SnapshotTest.class, WouldBeTest.class, ModelTest.class, EdgeHourTest.class, EdgeStallTest.class,
        EdgeBreakerTest.class, EdgeTextTest.class, EdgeSnapshotTest.class, EdgeLookTest.class,
        EdgeWouldBeTest.class, DocumentTest.class, FaceTest.class, LanguageTest.class,
        ReadmeTest.class};
    static final Pattern PROMISE = Pattern.compile("promise(\\d+).*");

    private static int passed = 0;
    private static int failed = 0;

    public static void main(String[] args) {
        Set<Integer> promises = new TreeSet<>();
        for (Class<?> tests : CLASSES) {
            Method[] methods = tests.getDeclaredMethods();
            Arrays.sort(methods, Comparator.comparing(Method::getName));
            for (Method method : methods) {
                boolean isTest = Modifier.isStatic(method.getModifiers()) && !method.isSynthetic()
                        && !Modifier.isPrivate(method.getModifiers()) && method.getParameterCount() == 0;
                if (isTest) {
                    run(tests, method);
                    Matcher matcher = PROMISE.matcher(method.getName());
                    if (matcher.matches()) {
                        promises.add(Integer.valueOf(matcher.group(1)));
                    }
                }
            }
        }
        for (int promise = 1; promise <= 28; promise++) {
            if (!promises.contains(promise)) {
                failed++;
                System.out.println("promise " + promise + " has no test");
            }
        }
        System.out.println(passed + " passed, " + failed + " failed");
        System.exit(failed == 0 ? 0 : 1);
    }

    private static void run(Class<?> tests, Method method) {
        String name = tests.getSimpleName() + "." + method.getName();
        try {
            method.setAccessible(true);
            method.invoke(null);
            passed++;
        } catch (InvocationTargetException e) {
            failed++;
            System.out.println(name + lineOf(tests, e.getCause()) + ": " + e.getCause());
        } catch (IllegalAccessException e) {
            failed++;
            System.out.println(name + " can't be run: " + e);
        }
    }

    /** The line of the test that failed, behind a colon. */
    private static String lineOf(Class<?> tests, Throwable failure) {
        for (StackTraceElement call : failure.getStackTrace()) {
            if (call.getClassName().equals(tests.getName())) {
                return ":" + call.getLineNumber();
            }
        }
        return "";
    }
}
