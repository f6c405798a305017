import java.util.Arrays;
import java.util.function.Consumer;
import java.util.function.Supplier;

/** The input text and promises 11 to 14: a test of each sentence that names an edge. */
final class EdgeTextTest {
    private static final String PLAN = "A plan as a text is one or more orders with \";\" between them: \"s\", a"
            + " load, 1 to 500, \"@\", two hours with \"-\" between them, 0 to 23 each, \"*\", and a rank, 1 to 9 (a"
            + " stall comes); \"p\", the digit of a stall, \"=\", and a socket, 0 to 11 (it is plugged in); or \"h\""
            + " and hours, 1 to 48 (they go by).";
    private static final String READING = "The buffer is read from left to right; a character is a syntax error if"
            + " no plan as a text, of any length, begins with the characters before it and this character.";
    private static final String ORDERS = "Does the orders in the buffer as stall(), plug() and pass() do, one after"
            + " the other, up to the first one whose method would throw an exception, and clears the buffer.";

    private static final String FIVE_STALLS = "s1@0-0*1;s1@0-0*1;s1@0-0*1;s1@0-0*1;s1@0-0*1";

    // ---- the section "Input text"

    @Says("The buffer has at most 60 characters.")
    static void termsTheBufferHolds60() {
        MarketSockets x = new MarketSockets();
        Check.type(x, "h1;".repeat(19) + "h4");
        Check.same("a 60th", 60, x.append('8'));
        Edge.refuses("a 61st", Edge.STATE, () -> typed("h1;".repeat(20)), y -> y.append('h'));
        Check.same("hours of all 60", 20, x.open());
        Check.same("hour", 19 + 48, x.count(0));
    }

    @Says(PLAN)
    static void termsOrdersHaveTheirRanges() {
        numbers("s", "@5-6*7", 1, 500);
        numbers("s70@", "-6*7", 0, 23);
        numbers("s70@5-", "*7", 0, 23);
        numbers("s70@5-6*", "", 1, 9);
        numbers("p", "=6", 0, 9);
        numbers("p0=", "", 0, 11);
        numbers("h", "", 1, 48);
        numbers("h1;h", ";h1", 1, 48);
        errorAt("", 0, false);
        errorAt("h1;", 3, false);
        errorAt(";", 0, false);
        errorAt("h1;;h1", 3, false);
        errorAt("h1h1", 2, false);
        errorAt("h1,h1", 2, false);
        errorAt("h1;s1@2-3*4;p0=1", 16, true);
        errorAt("h1;x", 3, false);
        errorAt("S1@2-3*4", 0, false);
    }

    @Says(PLAN)
    static void termsOrdersNeedAllTheirParts() {
        for (String order : new String[] {"s500@23-23*9", "s1@0-0*1", "p9=11", "p0=0", "h48", "h1"}) {
            for (String text : new String[] {order, "h1;" + order, order + ";" + order}) {
                errorAt(text, text.length(), true);
            }
            int parts = order.replaceAll("[0-9]+", "9").length();
            for (int length = 0; length < order.length(); length++) {
                String begun = order.substring(0, length);
                boolean isWhole = begun.replaceAll("[0-9]+", "9").length() == parts;
                errorAt(begun, length, isWhole);
                errorAt("h1;" + begun, length + 3, isWhole);
                errorAt(begun + "!", length, false);
            }
        }
    }

    @Says("Numbers are without leading zeros.")
    static void termsNumbersHaveNoLeadingZeros() {
        errorAt("s01@2-3*4", 1, false);
        errorAt("s00@2-3*4", 1, false);
        errorAt("s1@02-3*4", 4, false);
        errorAt("s1@00-3*4", 4, false);
        errorAt("s1@2-03*4", 6, false);
        errorAt("s1@2-00*4", 6, false);
        errorAt("s1@2-3*04", 7, false);
        errorAt("p00=1", 2, false);
        errorAt("p01=1", 2, false);
        errorAt("p0=00", 4, false);
        errorAt("p0=011", 4, false);
        errorAt("h01", 1, false);
        errorAt("h00", 1, false);
        errorAt("s100@0-0*1;p0=0;h10", 19, true);
    }

    @Says(READING)
    static void termsPlansOfAnyLengthCount() {
        errorAt("h1;".repeat(20), 60, false);
        errorAt("h1;".repeat(19) + "s12", 60, false);
        errorAt("h1;".repeat(19) + "p0=", 60, false);
        errorAt("h1;".repeat(19) + "h1h", 59, false);
        errorAt("h1;".repeat(19) + "h48", 60, true);
        errorAt("h1;".repeat(19) + "h49", 59, false);
    }

    @Says(READING)
    static void termsTheFirstErrorIsTheLeftmost() {
        errorAt("xyz", 0, false);
        errorAt("h1;x;y;h0", 3, false);
        errorAt("h0;h1", 1, false);
        errorAt("h481", 3, false);
        errorAt("h490", 2, false);
        errorAt("s5001@2-3*4", 4, false);
        errorAt("s501@2-3*4", 3, false);
        errorAt("s1@240-3*4", 4, false);
        errorAt("p0=111", 5, false);
    }

    // ---- promise 11

    @Says("Appends a character to the buffer.")
    static void promise11AppendsAtTheEnd() {
        MarketSockets x = typed("h");
        x.append('4');
        x.append('7');
        Check.same("as a plan", 1, x.open());
        Check.same("hour", 47, x.count(0));
        Edge.looks(() -> typed("h4"), y -> Check.same("no state is saved", 0, y.count(11)));
    }

    @Says("`code`: the character code, 33 to 126")
    static void promise11CodeIs33To126() {
        Edge.range(Edge.ARGUMENT, Edge::full, 33, 126, (x, code) -> {
            x.append(code);
            boolean begins = code == 's' || code == 'p' || code == 'h';
            Check.same("first error of " + (char) code, begins ? 1 : 0, x.firstError());
        });
    }

    @Says("Returns the new length of the buffer.")
    static void promise11ReturnsTheLength() {
        MarketSockets x = new MarketSockets();
        for (int length = 1; length <= 60; length++) {
            Check.same("length", length, x.append('h'));
        }
        x.clearBuffer();
        Check.same("length after it was cleared", 1, x.append('h'));
    }

    @Says("Throws `IllegalArgumentException` if code is not 33 to 126")
    static void promise11RefusesOtherCodes() {
        for (int code : new int[] {0, 9, 10, 32, 127, 128, 255, 256 + 'h', 65536 + 'h', -'h'}) {
            Edge.refuses("code " + code, Edge.ARGUMENT, Edge::busy, x -> x.append(code));
            Edge.refuses("code " + code + " in a full buffer", Edge.ARGUMENT, () -> typed("h1;".repeat(20)),
                    x -> x.append(code));
        }
    }

    @Says("Throws `IllegalStateException` if the buffer has 60 characters")
    static void promise11RefusesA61st() {
        MarketSockets x = typed("h1;".repeat(19) + "h4");
        Check.same("a 60th", 60, x.append('8'));
        for (int code : new int[] {33, '1', 126}) {
            Edge.refuses("a 61st", Edge.STATE, () -> typed("h1;".repeat(19) + "h48"), y -> y.append(code));
        }
    }

    // ---- promise 12

    @Says("Clears the buffer.")
    static void promise12LeavesNothing() {
        for (String text : new String[] {"", "h", "h1;".repeat(20)}) {
            MarketSockets x = typed(text);
            x.clearBuffer();
            Edge.sameWhole("cleared", new MarketSockets(), x);
            Check.same("a buffer without characters", 0, x.clearBuffer());
        }
        Edge.refuses("no plan is left", Edge.ARGUMENT, () -> {
            MarketSockets x = typed("h1");
            x.clearBuffer();
            return x;
        }, MarketSockets::open);
    }

    @Says("Returns the length that it had.")
    static void promise12ReturnsTheLength() {
        for (int length = 0; length <= 60; length++) {
            MarketSockets x = typed("?".repeat(length));
            Check.same("length", length, x.clearBuffer());
            Check.same("length then", 0, x.clearBuffer());
        }
    }

    // ---- promise 13

    @Says("Finds the first syntax error of the buffer.")
    static void promise13FindsTheFirst() {
        errorAt("?", 0, false);
        errorAt("h1?h1?", 2, false);
        errorAt("h1;".repeat(19) + "h1?", 59, false);
        Edge.looks(Edge::busy, x -> Check.same("it changes nothing", 6, x.firstError()));
    }

    @Says("Returns the index of the first character that is a syntax error; the length of the buffer if there is none.")
    static void promise13ReturnsTheLengthWithoutOne() {
        String text = "h1;".repeat(20);
        for (int length = 0; length <= 60; length++) {
            Check.same("length", length, typed(text.substring(0, length)).firstError());
        }
        for (int length = 0; length < 60; length++) {
            Check.same("index", length, typed(text.substring(0, length) + "!").firstError());
        }
    }

    // ---- promise 14

    @Says(ORDERS)
    static void promise14DoesWhatTheMethodsDo() {
        isLike("s500@23-0*9", x -> x.stall(500, 23, 0, 9));
        isLike("s1@0-23*1", x -> x.stall(1, 0, 23, 1));
        isLike("p0=11", x -> x.plug(0, 11));
        isLike("p3=2", x -> x.plug(3, 2));
        isLike("h1", x -> x.pass(1));
        isLike("h48", x -> x.pass(48));
        MarketSockets x = typed("s500@23-0*9;h1;p0=11;h48;p0=0");
        Check.same("one after the other", 5, x.open());
        Check.same("hour", 49, x.count(0));
        Check.same("meter of the hour in which the reserve trips", 500, x.stallOf(0, 6));
        Check.same("dark hours ahead of the plug and behind the trip", 4, x.stallOf(0, 7));
        Check.same("socket", 0, x.stallOf(0, 4));
    }

    @Says(ORDERS)
    static void promise14StopsWhereAMethodWouldThrow() {
        stopsAt("a stall that is not there", MarketSockets::new, "p0=0;h1", 0);
        stopsAt("a stall that comes later", MarketSockets::new, "h1;p0=0;s1@0-0*1", 1);
        stopsAt("a stall beyond the last one", Edge::one, "p0=0;p1=1;h1", 1);
        stopsAt("the greatest digit without ten stalls", Edge::one, "h1;p9=0;h1", 1);
        stopsAt("another's socket", () -> Edge.on(3, 5, 5), "p1=9;h1", 0);
        stopsAt("its own socket", () -> Edge.on(0, 5), "p0=0;h1", 0);
        stopsAt("an 11th stall", Edge::full, "h1;s1@0-0*1;h1", 1);
        stopsAt("an hour above 9999", () -> Edge.atHour(9951), "h48;h1;s1@0-0*1", 1);
        stopsAt("an hour above 9999 in the first order", () -> Edge.atHour(9952), "h48;h1", 0);
        stopsAt("no order", Edge::full, "p9=11;p8=10;h48", 3);
    }

    @Says(ORDERS)
    static void promise14FillsTheMarketUpToTen() {
        MarketSockets x = typed(FIVE_STALLS);
        Check.same("five", 5, x.open());
        Check.same("four more", 4, Check.open(x, FIVE_STALLS.substring(9)));
        Check.same("the tenth, and no 11th", 1, Check.open(x, FIVE_STALLS));
        Check.same("stalls", 10, x.count(1));
        Check.same("the greatest digit", 1, Check.open(x, "p9=11"));
        Check.same("socket of the tenth", 11, x.stallOf(9, 4));
    }

    @Says("Undoable, as one call, also if none is done.")
    static void promise14IsUndoableAsOneCall() {
        for (String text : new String[] {"h1", "h48;h48;h48", "p9=0", "h1;p9=0", "s1@0-0*1;p0=11;h1"}) {
            MarketSockets x = Edge.busyWithRoom();
            x.clearBuffer();
            Check.type(x, text);
            x.open();
            Check.same("saved states", 6, x.count(11));
            Check.same("undo", 5, x.undo());
            MarketSockets untouched = Edge.busyWithRoom();
            untouched.clearBuffer();
            Edge.sameWhole("undone " + text, untouched, x);
        }
    }

    @Says("Returns how many are done.")
    static void promise14ReturnsHowManyAreDone() {
        for (int orders = 1; orders <= 20; orders++) {
            MarketSockets x = typed("h1;".repeat(orders).substring(0, 3 * orders - 1));
            Check.same("orders", orders, x.open());
            Check.same("hour", orders, x.count(0));
        }
        Check.same("none", 0, typed("p0=0").open());
        Check.same("one of two", 1, typed("h1;p0=0").open());
    }

    @Says("Throws `IllegalArgumentException` if the buffer does not tell a plan as a text")
    static void promise14RefusesWhatIsNoPlan() {
        String[] texts = {"", "h", "h0", "h49", "h01", "h1;", "h1;;", ";h1", "h1;x", "s", "s1@0-0*", "s1@0-0*0", "p0",
            "p0=", "p0=12", "h1!", "h1;".repeat(20), "?".repeat(60)};
        for (String text : texts) {
            Edge.refuses("open of " + text, Edge.ARGUMENT, () -> typed(text), MarketSockets::open);
            Edge.refuses("open of " + text, Edge.ARGUMENT, () -> {
                MarketSockets x = Edge.busy();
                x.clearBuffer();
                Check.type(x, text);
                return x;
            }, MarketSockets::open);
        }
    }

    // ---- what is held of texts

    private static MarketSockets typed(String text) {
        MarketSockets x = new MarketSockets();
        Check.type(x, text);
        return x;
    }

    /** With just the numbers from the least to the most between its parts, the text is a plan. */
    private static void numbers(String head, String tail, int least, int most) {
        for (int number = 0; number <= 10 * most + 9; number++) {
            boolean isPlan = number >= least && number <= most;
            String digits = Integer.toString(number);
            int good = 0;
            while (good < digits.length() && begins(digits.substring(0, good + 1), least, most)) {
                good++;
            }
            String text = head + digits + tail;
            errorAt(text, isPlan ? text.length() : head.length() + good, isPlan);
        }
    }

    /** A number in the range begins with these digits. */
    private static boolean begins(String digits, int least, int most) {
        for (int number = least; number <= most; number++) {
            if (Integer.toString(number).startsWith(digits)) {
                return true;
            }
        }
        return false;
    }

    private static void errorAt(String text, int due, boolean isPlan) {
        MarketSockets x = typed(text);
        Check.same("first error of " + text, due, x.firstError());
        boolean opened = true;
        try {
            x.open();
        } catch (IllegalArgumentException e) {
            opened = false;
        }
        Check.isTrue("open of " + text, opened == isPlan);
        Check.same("length of the buffer after open of " + text, isPlan ? 0 : text.length(), x.clearBuffer());
    }

    /** As many orders are done as told, and the market is then as after a plan of these alone. */
    private static void stopsAt(String what, Supplier<MarketSockets> made, String text, int done) {
        MarketSockets x = made.get();
        Check.type(x, text);
        Check.same("orders before " + what, done, x.open());
        Check.same("length of the buffer after " + what, 0, x.clearBuffer());
        MarketSockets y = made.get();
        if (done == 0) {
            y.set(0, y.setting(0));
        } else {
            Check.type(y, String.join(";", Arrays.copyOf(text.split(";"), done)));
            y.open();
        }
        Edge.sameWhole(what, y, x);
    }

    /** A plan of one order leaves what the method itself does. */
    private static void isLike(String order, Consumer<MarketSockets> call) {
        MarketSockets x = Edge.busyWithRoom();
        MarketSockets y = Edge.busyWithRoom();
        x.clearBuffer();
        y.clearBuffer();
        Check.type(x, order);
        Check.same("open of " + order, 1, x.open());
        call.accept(y);
        Edge.sameWhole(order, y, x);
    }
}
