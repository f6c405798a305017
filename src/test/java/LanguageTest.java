import java.io.IOException;
import java.nio.file.Files;
import java.nio.file.Path;
import java.util.regex.Matcher;
import java.util.regex.Pattern;

/** The rules of LANGUAGE.md that a look at the text can hold, and the room of all calls. */
final class LanguageTest {
    static final Path SOURCE = Path.of("src", "main", "java", "MarketSockets.java");
    private static final String[] FORBIDDEN = {"->", "::", "\\btry\\b", "\\bcatch\\b", "\\bfinally\\b", "\\bimport\\b",
        "\\bpackage\\b", "\\bassert\\b", "\\bsynchronized\\b", "\\binstanceof\\b", "Exact\\b", "\\+ *\"", "\" *\\+",
        "\\bprotected\\b", "@\\w", "\\bvar\\b", "\\bfloat\\b", "\\bObject\\b", "hashCode", "\\bDouble\\.",
        "\\bSystem\\.(?!arraycopy)", "\\bMath\\.(?!max|min)"};

    static void textKeepsToTheRules() throws IOException {
        String text = code();
        for (String forbidden : FORBIDDEN) {
            Matcher matcher = Pattern.compile(forbidden).matcher(text);
            Check.isTrue("the program uses " + forbidden, !matcher.find());
        }
        Check.isTrue("at most 12 classes", text.split("\\bclass \\w").length - 1 <= 12);
    }

    /** Rule 4 can be read so that the library copies arrays of numbers alone. */
    static void libraryCopiesNumbersAlone() throws IOException {
        String text = code();
        Matcher copied = Pattern.compile("arraycopy\\((?:\\w+\\.)*(\\w+),").matcher(text);
        while (copied.find()) {
            boolean isOfNumbers = Pattern.compile("\\b(?:int|long|char)\\[] " + copied.group(1) + "\\b").matcher(text)
                    .find();
            Check.isTrue(copied.group(1) + " is an array of numbers", isOfNumbers);
        }
    }

    static void methodsAreShort() throws IOException {
        int start = 0;
        String[] lines = Files.readString(SOURCE).split("\n");
        for (int k = 0; k < lines.length; k++) {
            if (lines[k].matches(" {4,8}[a-zA-Z].*\\(.*") && !lines[k].endsWith(";")) {
                start = k;
            }
            if (lines[k].matches(" {4,8}}")) {
                Check.isTrue("the method at line " + (start + 1) + " is short", k - start <= 60);
            }
        }
    }

    static void callsMakeNothing() {
        MarketSockets x = new MarketSockets();
        Check.open(x, "s150@0-23*4;s90@18-3*6;s240@5-9*9;s30@0-23*2");
        Check.open(x, "p0=0;p1=1;p2=4;p3=9;h20");
        long hash = x.digest();
        long before = bytesMade();
        for (int k = 0; k < 512; k++) {
            hash += x.digest();
            x.bound(0, 10 + k);
            x.pass(1);
            x.keep(k % 2);
            x.goBack(k % 2);
        }
        long made = bytesMade() - before;
        Check.isTrue("calls make objects: " + made + " bytes, hash " + hash, made < 100_000);
    }

    /** Each of 512 calls of a run may be one that makes a market; all of them live in one room. */
    static void marketsAreSmall() {
        new MarketSockets();
        long before = bytesMade();
        MarketSockets x = new MarketSockets();
        long made = bytesMade() - before;
        Check.isTrue("a market has " + made + " bytes, hour " + x.count(0), made < 20_000);
    }

    private static long bytesMade() {
        com.sun.management.ThreadMXBean meter =
                (com.sun.management.ThreadMXBean) java.lang.management.ManagementFactory.getThreadMXBean();
        return meter.getThreadAllocatedBytes(Thread.currentThread().getId());
    }

    /** The program without its comments and texts. */
    private static String code() throws IOException {
        String text = Files.readString(SOURCE);
        Check.isTrue("signs 1 to 127 alone", text.chars().allMatch(sign -> sign > 0 && sign < 128));
        text = text.replaceAll("(?s)/\\*.*?\\*/", " ").replaceAll("//[^\n]*", " ");
        return text.replaceAll("\"[^\"\n]*\"", "\"\"");
    }
}
