import java.io.IOException;
import java.lang.reflect.Method;
import java.nio.file.Files;
import java.nio.file.Path;
import java.util.ArrayList;
import java.util.LinkedHashMap;
import java.util.LinkedHashSet;
import java.util.List;
import java.util.Map;
import java.util.Set;
import java.util.regex.Matcher;

/** Each sentence of the document, from its terms to its last promise, is said by a test that holds it. */
final class DocumentTest {
    private static final Path DOCUMENT = Path.of("..", "shared", "DOC.md");
    /** What the name of a test begins with that holds sentences from "Terms" up to the first promise. */
    private static final String TERMS = "terms";
    /** Headings and hints at what follows, which no call can break. */
    private static final Set<String> NOT_TO_TEST = Set.of("Loads are in tens of watts.", "Breakers, sockets",
        "Snapshots, undo", "When an hour goes by, the following happens:",
        "Ahead of the calls `stall`, `plug`, `pull`, `shed` the interface says: ---- stalls.",
        "Ahead of the calls `bound`, `reset`, `over`, `pass`, `set` the interface says: ---- breakers, hours.",
        "Ahead of the calls `append`, `clearBuffer`, `firstError`, `open`, `keep`, `goBack`, `undo` the interface says:"
            + " ---- texts, snapshots.");

    static void eachSentenceHasATest() throws IOException {
        Map<String, Set<String>> untested = sentences();
        Check.same("parts of the document", 29, untested.size());
        for (Class<?> tests : AllTests.CLASSES) {
            for (Method method : tests.getDeclaredMethods()) {
                Says says = method.getAnnotation(Says.class);
                if (says != null) {
                    untested.get(partOf(method)).removeAll(List.of(says.value()));
                }
            }
        }
        List<String> left = new ArrayList<>();
        for (Set<String> part : untested.values()) {
            part.removeAll(NOT_TO_TEST);
            left.addAll(part);
        }
        Check.isTrue("no test says " + left, left.isEmpty());
    }

    static void eachTestSaysWhatTheDocumentSays() throws IOException {
        Map<String, Set<String>> sentences = sentences();
        for (Class<?> tests : AllTests.CLASSES) {
            for (Method method : tests.getDeclaredMethods()) {
                Says says = method.getAnnotation(Says.class);
                if (says == null) {
                    continue;
                }
                Set<String> part = sentences.get(partOf(method));
                Check.isTrue(method.getName() + " has a part", part != null);
                for (String sentence : says.value()) {
                    Check.isTrue("the document says, for " + method.getName() + ": " + sentence,
                            part.contains(sentence));
                }
            }
        }
    }

    /** The number of the promise that a test is of, or TERMS. */
    private static String partOf(Method method) {
        Matcher matcher = AllTests.PROMISE.matcher(method.getName());
        return matcher.matches() ? matcher.group(1) : TERMS;
    }

    /** The sentences of each promise, and those from "Terms" up to the first promise. */
    private static Map<String, Set<String>> sentences() throws IOException {
        Map<String, Set<String>> sentences = new LinkedHashMap<>();
        Set<String> part = new LinkedHashSet<>();
        for (String line : Files.readAllLines(DOCUMENT)) {
            if (line.startsWith("## ")) {
                part = new LinkedHashSet<>();
                if (line.equals("## Terms")) {
                    sentences.put(TERMS, part);
                } else if (line.startsWith("## Promise ")) {
                    sentences.put(line.replaceAll("## Promise (\\d+):.*", "$1"), part);
                }
            } else if (!line.isBlank() && !line.startsWith("#")) {
                String text = line.replaceFirst("^- (\\d+\\. )?", "").replaceFirst("^`[^`(]*\\([^`]*`: ", "");
                part.addAll(List.of(text.split("(?<=\\.) (?=[A-Z])")));
            }
        }
        return sentences;
    }
}
