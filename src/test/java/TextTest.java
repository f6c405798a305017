import java.util.regex.Matcher;
import java.util.regex.Pattern;

/** Promises 11 to 14: the buffer, its errors, and plans as texts. */
final class TextTest {
    private static final String HOUR = "(1[0-9]|2[0-3]|[0-9])";
    private static final String ORDER = "(s(500|[1-4][0-9][0-9]|[1-9][0-9]|[1-9])@" + HOUR + "-" + HOUR + "\\*[1-9]"
            + "|p[0-9]=(1[01]|[0-9])|h(4[0-8]|[1-3][0-9]|[1-9]))";
    private static final Pattern PLAN = Pattern.compile(ORDER + "(;" + ORDER + ")*");

    static void promise11AppendsUpTo60() {
        MarketSockets x = new MarketSockets();
        Check.refusesArgument("code 32", x, () -> x.append(32));
        Check.refusesArgument("code 127", x, () -> x.append(127));
        Check.refusesArgument("code -1", x, () -> x.append(-1));
        Check.refusesArgument("code 65536 + 49", x, () -> x.append(65536 + 49));
        for (int length = 1; length <= 60; length++) {
            Check.same("append", length, x.append(length % 2 == 0 ? 33 : 126));
        }
        Check.refusesState("a 61st", x, () -> x.append(33));
        Check.refusesArgument("a wrong 61st", x, () -> x.append(32));
        Check.same("not undoable", 0, x.count(11));
    }

    static void promise12Clears() {
        MarketSockets x = new MarketSockets();
        Check.same("empty", 0, x.clearBuffer());
        Check.type(x, "abc");
        Check.same("length", 3, x.clearBuffer());
        Check.same("cleared", 0, x.clearBuffer());
        Check.same("next", 1, x.append('h'));
        Check.same("not undoable", 0, x.count(11));
    }

    static void promise13FindsErrorsOfAllEdges() {
        String[] heads = {"", "s", "s1@", "s1@1-", "s1@1-1*", "s1@1-1*1", "p", "p0", "p0=", "p0=1", "h", "h1", "h4",
            "h1;", "h1;p9=11;", "s5", "s50", "s49", "s500@2", "s9@23-2", "s10@1", "s1@0-0", "p3=0"};
        for (String head : heads) {
            for (char sign = '!'; sign <= '~'; sign++) {
                expectFirstError(head + sign);
                expectFirstError(head + sign + "1");
                expectFirstError(head + sign + "00");
            }
        }
    }

    static void promise13FindsErrorsOfGivenTexts() {
        Object[][] texts = {
            {"", 0}, {"s", 1}, {"s0", 1}, {"s501", 3}, {"s500@", 5}, {"s51", 3}, {"s511", 3}, {"s5000", 4},
            {"s1@24", 4}, {"s1@00", 4}, {"s1@9-30", 6}, {"s1@9-3*0", 7}, {"s1@9-3*10", 8}, {"h0", 1}, {"h48", 3},
            {"h49", 2}, {"h5;", 3}, {"h5;;", 3}, {";h5", 0}, {"p10=1", 2}, {"p1=12", 4}, {"p1=01", 4},
            {"p9=11", 5}, {"H5", 0}, {"h5 ", 2}};
        for (Object[] text : texts) {
            MarketSockets x = new MarketSockets();
            String signs = (String) text[0];
            for (char sign : signs.replace(" ", "!").toCharArray()) {
                x.append(sign);
            }
            Check.same("firstError of " + signs, (Integer) text[1], x.firstError());
        }
    }

    static void promise13LooksBeyondTheBuffersLength() {
        MarketSockets x = new MarketSockets();
        Check.type(x, "h1;h1;h1;h1;h1;h1;h1;h1;h1;h1;h1;h1;h1;h1;h1;h1;h1;h1;h1;h1;");
        Check.same("a full buffer that goes on", 60, x.firstError());
        Check.refusesArgument("it tells no plan", x, x::open);
        Check.same("it is kept", 60, x.clearBuffer());
    }

    static void promise13DoesNotReadWhatWasCleared() {
        MarketSockets x = new MarketSockets();
        Check.type(x, "h12;h1");
        x.clearBuffer();
        Check.type(x, "h");
        Check.same("h alone", 1, x.firstError());
        Check.refusesArgument("h alone", x, x::open);
        Check.type(x, "1");
        Check.same("h1", 2, x.firstError());
        Check.same("one order", 1, x.open());
        Check.same("hour", 1, x.count(0));
        Check.type(x, "h1;h1;h1;h1;h1;h1;h1;h1;h1;h1;h1;h1;h1;h1;h1;h1;h1;h1;h1;p1=");
        Check.same("a full buffer that ends ahead of a number", 60, x.firstError());
    }

    static void promise14DoesTheOrders() {
        MarketSockets x = new MarketSockets();
        Check.same("open", 4, Check.open(x, "s120@20-3*7;s9@0-23*1;p0=11;h3"));
        Check.same("hour", 3, x.count(0));
        Check.same("load", 120, x.stallOf(0, 0));
        Check.same("from", 20, x.stallOf(0, 1));
        Check.same("to", 3, x.stallOf(0, 2));
        Check.same("rank", 7, x.stallOf(0, 3));
        Check.same("socket", 11, x.stallOf(0, 4));
        Check.same("meter", 360, x.stallOf(0, 6));
        Check.same("saved as one call", 1, x.count(11));
        Check.same("the buffer is cleared", 0, x.clearBuffer());
        Check.same("undo", 0, x.undo());
        Check.same("stalls", 0, x.count(1));
        Check.same("the buffer stays cleared", 0, x.clearBuffer());
    }

    static void promise14StopsAtTheFirstThatWouldThrow() {
        MarketSockets x = new MarketSockets();
        Check.same("no such stall", 0, Check.open(x, "p0=1;h5"));
        Check.same("the hour stays", 0, x.count(0));
        Check.same("saved, though none is done", 1, x.count(11));
        Check.same("the buffer is cleared", 0, x.clearBuffer());
        Check.same("another's socket", 3, Check.open(x, "s1@0-0*1;s1@0-0*1;p0=3;p1=3;h5"));
        Check.same("its own socket", 1, Check.open(x, "h1;p0=3;h2"));
        Check.same("a stall that came by then", 3, Check.open(x, "s2@0-0*1;p2=4;p2=5;p3=6"));
        Check.same("moved", 5, x.stallOf(2, 4));
        Check.same("the market is full", 7, Check.open(x, "s1@0-0*1;s1@0-0*1;s1@0-0*1;s1@0-0*1;s1@0-0*1;s1@0-0*1"
                ) + Check.open(x, "s1@0-0*1;s1@0-0*1;h9"));
        Check.same("hour", 1, x.count(0));
        Check.same("stalls", 10, x.count(1));
    }

    static void promise14FillsTheBuffer() {
        MarketSockets x = new MarketSockets();
        Check.same("20 orders", 20, Check.open(x, "h1;h1;h1;h1;h1;h1;h1;h1;h1;h1;h1;h1;h1;h1;h1;h1;h1;h1;h1;h4"));
        Check.same("hour", 23, x.count(0));
    }

    static void promise14StopsAtTheLastHour() {
        MarketSockets x = new MarketSockets();
        for (int k = 0; k < 208; k++) {
            x.pass(48);
        }
        Check.same("up to 9999", 1, Check.open(x, "h15;h1"));
        Check.same("hour", 9999, x.count(0));
    }

    static void promise14RefusesWhatIsNoPlan() {
        for (String text : new String[] {"", "s", "h", "h1;", "h49", "p0=", "s1@0-0*", "s1@0-0", "x", "h1h1"}) {
            MarketSockets x = new MarketSockets();
            Check.type(x, text);
            Check.refusesArgument("open of " + text, x, x::open);
            Check.same("saved states", 0, x.count(11));
            Check.same("the buffer stays", text.length(), x.clearBuffer());
        }
    }

    /** The first index at which no plan begins with the text up to there; the regular expressions tell. */
    private static void expectFirstError(String text) {
        int due = 0;
        while (due < text.length() && beginsAPlan(text.substring(0, due + 1))) {
            due++;
        }
        MarketSockets x = new MarketSockets();
        Check.type(x, text);
        Check.same("firstError of " + text, due, x.firstError());
        boolean opened = true;
        try {
            x.open();
        } catch (IllegalArgumentException e) {
            opened = false;
        }
        Check.isTrue("open of " + text, opened == PLAN.matcher(text).matches());
    }

    private static boolean beginsAPlan(String text) {
        Matcher matcher = PLAN.matcher(text);
        return matcher.matches() || matcher.hitEnd();
    }
}
