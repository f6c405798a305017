import java.util.function.Consumer;
import java.util.function.ObjIntConsumer;
import java.util.function.Supplier;
import java.util.function.ToIntBiFunction;

/** What the tests of edges share: markets to begin with, and what they hold of a call. */
final class Edge {
    static final Class<IllegalArgumentException> ARGUMENT = IllegalArgumentException.class;
    static final Class<IllegalStateException> STATE = IllegalStateException.class;
    static final Class<IndexOutOfBoundsException> INDEX = IndexOutOfBoundsException.class;

    private Edge() {
    }

    // ---- markets

    /** Four stalls, the breakers 0 and 1 tripped, 6 saved states, both slots taken, a text in the buffer. */
    static MarketSockets busy() {
        MarketSockets x = new MarketSockets();
        Check.open(x, "s150@0-23*4;s90@18-3*6;s240@5-9*9;s30@0-23*2");
        Check.open(x, "p0=0;p1=1;p2=4;p3=9");
        x.pass(31);
        x.keep(0);
        x.reset(0);
        x.over(7);
        x.shed(3);
        x.set(0, 5);
        x.pass(18);
        x.keep(1);
        x.bound(0, 222);
        x.plug(3, 7);
        Check.type(x, "h1;p0=");
        return x;
    }

    /** The same with 5 saved states, so that one more drops none. */
    static MarketSockets busyWithRoom() {
        MarketSockets x = busy();
        x.undo();
        return x;
    }

    /** As many stalls as there is place for, at no sockets; 5 saved states. */
    static MarketSockets full() {
        MarketSockets x = new MarketSockets();
        for (int stall = 0; stall < 10; stall++) {
            x.stall(10 + stall, 0, 23, 5);
        }
        x.undo();
        x.undo();
        Check.open(x, "s18@0-23*5;s19@0-23*5");
        return x;
    }

    /** One stall, at no socket. */
    static MarketSockets one() {
        MarketSockets x = new MarketSockets();
        x.stall(40, 6, 20, 3);
        return x;
    }

    /** Stalls that draw these loads all day, at the lowest sockets that one breaker has; three at most. */
    static MarketSockets on(int breaker, int... loads) {
        MarketSockets x = new MarketSockets();
        for (int stall = 0; stall < loads.length; stall++) {
            x.stall(loads[stall], 0, 23, 1);
            x.plug(stall, 3 * breaker + stall);
        }
        return x;
    }

    /** Four stalls of 500 that made all four breakers trip, in the hour 0. */
    static MarketSockets tripped() {
        MarketSockets x = new MarketSockets();
        Check.open(x, "s500@0-23*1;s500@0-23*1;s500@0-23*1;s500@0-23*1");
        Check.open(x, "p0=0;p1=3;p2=6;p3=9;h1");
        return x;
    }

    /** Lets hours go by up to this one. */
    static void passTo(MarketSockets x, int hour) {
        while (x.count(0) < hour) {
            x.pass(Math.min(48, hour - x.count(0)));
        }
    }

    /** A market without stalls at this hour. */
    static MarketSockets atHour(int hour) {
        MarketSockets x = new MarketSockets();
        passTo(x, hour);
        return x;
    }

    /** The reserve carries 200, and more in 13 hours of the day, two or three of them in a row. */
    static void fillReserve(MarketSockets x, int more) {
        int[][] hours = {{0, 23}, {0, 1}, {4, 5}, {8, 9}, {12, 13}, {16, 17}, {20, 22}};
        int[] sockets = {9, 10, 11, 0, 1, 2, 3};
        for (int stall = 0; stall < 7; stall++) {
            x.stall(stall == 0 ? 200 : more, hours[stall][0], hours[stall][1], 1);
            x.plug(stall, sockets[stall]);
            if (sockets[stall] < 9) {
                x.over(sockets[stall]);
            }
        }
    }

    // ---- what is held of a call

    /** The call throws just this exception, and nothing is changed, the saved states and the slots included. */
    static void refuses(String what, Class<?> due, Supplier<MarketSockets> made, Consumer<MarketSockets> call) {
        MarketSockets x = made.get();
        Class<?> got = thrownBy(x, call);
        Check.isTrue(what + " threw " + got + ", due is " + due, got == due);
        sameWhole("after " + what, made.get(), x);
    }

    /** The call takes each value from the least to the most, and throws just this exception for others. */
    static void range(Class<?> due, Supplier<MarketSockets> made, int least, int most,
            ObjIntConsumer<MarketSockets> call) {
        for (int value = least; value <= most; value++) {
            int taken = value;
            Class<?> got = thrownBy(made.get(), x -> call.accept(x, taken));
            Check.isTrue("the value " + value + " threw " + got, got == null);
        }
        int[] wrong = {least - 1, most + 1, least - 65536, most + 65536, Integer.MIN_VALUE, Integer.MAX_VALUE};
        for (int value : wrong) {
            refuses("the value " + value, due, made, x -> call.accept(x, value));
        }
    }

    /** The call answers this for the values from 0 on, and throws just this exception for others. */
    static void answers(Class<?> refused, Supplier<MarketSockets> made, ToIntBiFunction<MarketSockets, Integer> call,
            int... due) {
        range(refused, made, 0, due.length - 1, (x, value) -> {
            int got = call.applyAsInt(x, value);
            Check.same("the answer for " + value, due[value], got);
        });
    }

    /** The call saves one state, and undo brings back all that was before it; a market with room for it. */
    static void undoable(Supplier<MarketSockets> made, Consumer<MarketSockets> call) {
        MarketSockets x = made.get();
        MarketSockets untouched = made.get();
        int saved = untouched.count(11);
        Check.isTrue("there is room for a saved state", saved < 6);
        call.accept(x);
        Check.same("saved states", saved + 1, x.count(11));
        Check.same("undo", saved, x.undo());
        sameWhole("undone", untouched, x);
    }

    /** The call changes nothing. */
    static void looks(Supplier<MarketSockets> made, Consumer<MarketSockets> call) {
        MarketSockets x = made.get();
        call.accept(x);
        sameWhole("after a look", made.get(), x);
    }

    private static Class<?> thrownBy(MarketSockets x, Consumer<MarketSockets> call) {
        try {
            call.accept(x);
            return null;
        } catch (RuntimeException e) {
            return e.getClass();
        }
    }

    /** All that can be seen of two markets is the same, now, as each saved state, and as each snapshot. */
    static void sameWhole(String what, MarketSockets due, MarketSockets got) {
        sameLooks(what, due, got);
        for (int left = due.count(11); left > 0; left--) {
            due.undo();
            got.undo();
            Check.same(what + ", digest with " + (left - 1) + " saved states", due.digest(), got.digest());
        }
        for (int slot = 0; slot < 2; slot++) {
            int which = slot;
            Class<?> thrown = thrownBy(due, x -> x.goBack(which));
            Check.isTrue(what + ", slot " + slot, thrown == thrownBy(got, x -> x.goBack(which)));
            Check.same(what + ", digest of slot " + slot, due.digest(), got.digest());
        }
    }

    /** All that looks tell of two markets is the same. */
    static void sameLooks(String what, MarketSockets due, MarketSockets got) {
        String[] dueLines = told(due).split("\n");
        String[] gotLines = told(got).split("\n");
        for (int k = 0; k < Math.min(dueLines.length, gotLines.length); k++) {
            Check.isTrue(what + ": " + gotLines[k] + ", due is " + dueLines[k], dueLines[k].equals(gotLines[k]));
        }
        Check.same(what + ", lines", dueLines.length, gotLines.length);
    }

    /** All that looks tell of a market, a line each. */
    private static String told(MarketSockets x) {
        StringBuilder text = new StringBuilder();
        for (int what = 0; what < 12; what++) {
            text.append("count ").append(what).append(": ").append(x.count(what)).append('\n');
        }
        for (int k = 0; k < 3; k++) {
            text.append("setting ").append(k).append(": ").append(x.setting(k)).append('\n');
        }
        for (int k = 0; k < x.count(1); k++) {
            for (int what = 0; what < 10; what++) {
                text.append("stall ").append(k).append(' ').append(what).append(": ").append(x.stallOf(k, what))
                        .append('\n');
            }
        }
        for (int k = 0; k < 4; k++) {
            for (int what = 0; what < 7; what++) {
                text.append("breaker ").append(k).append(' ').append(what).append(": ").append(x.breaker(k, what))
                        .append('\n');
            }
        }
        for (int k = 0; k < 12; k++) {
            text.append("socket ").append(k).append(": ").append(x.socket(k, 0)).append(' ').append(x.socket(k, 1))
                    .append('\n');
        }
        text.append("share: ").append(x.servedShare()).append('\n');
        text.append("first error: ").append(x.firstError()).append('\n');
        text.append("digest: ").append(x.digest()).append('\n');
        return text.toString();
    }
}
