import java.util.function.IntSupplier;

/** All promises at once: long runs of calls, each answer held against the Model's. */
final class ModelTest {
    private static final int RUNS = 120;
    private static final int CALLS = 300;
    private static final int[] FAR = {Integer.MIN_VALUE, Integer.MIN_VALUE + 1, -1000, -1, 1000, 65536, 9999,
        Integer.MAX_VALUE - 1, Integer.MAX_VALUE};

    private final MarketSockets x = new MarketSockets();
    private final Model model = new Model();
    private long seed;
    private String call = "";

    private ModelTest(int run) {
        seed = 7919L * run + 17;
    }

    /** A row of numbers that is the same each time. */
    private int next(int bound) {
        seed = seed * 6364136223846793005L + 1442695040888963407L;
        return (int) Math.floorMod(seed >>> 33, (long) bound);
    }

    private int within(int least, int most) {
        return least + next(most - least + 1);
    }

    static void promises1To28HoldInLongRuns() {
        for (int run = 0; run < RUNS; run++) {
            ModelTest test = new ModelTest(run);
            try {
                for (int k = 0; k < CALLS; k++) {
                    test.oneCall();
                    if (k % 30 == 29) {
                        test.look();
                    }
                }
            } catch (RuntimeException | AssertionError e) {
                throw new AssertionError("run " + run + ", " + test.call + ": " + e, e);
            }
        }
    }

    static void promises1To28RefuseFarArguments() {
        ModelTest test = new ModelTest(5);
        for (int k = 0; k < 60; k++) {
            test.oneCall();
        }
        MarketSockets x = test.x;
        Check.isTrue("there are stalls", x.count(1) > 0 && x.count(1) < 10);
        for (int far : FAR) {
            Check.refusesArgument("stall", x, () -> x.stall(far, 0, 0, 1));
            Check.refusesArgument("stall", x, () -> x.stall(1, far, 0, 1));
            Check.refusesArgument("stall", x, () -> x.stall(1, 0, far, 1));
            Check.refusesArgument("stall", x, () -> x.stall(1, 0, 0, far));
            Check.refusesIndex("plug", x, () -> x.plug(far, far));
            Check.refusesArgument("plug", x, () -> x.plug(0, far));
            Check.refusesIndex("pull", x, () -> x.pull(far));
            Check.refusesIndex("shed", x, () -> x.shed(far));
            Check.refusesArgument("bound", x, () -> x.bound(far, 10));
            Check.refusesArgument("reset", x, () -> x.reset(far));
            Check.refusesArgument("over", x, () -> x.over(far));
            Check.refusesArgument("pass", x, () -> x.pass(far));
            Check.refusesIndex("set", x, () -> x.set(far, 1));
            Check.refusesArgument("set", x, () -> x.set(0, far));
            Check.refusesArgument("keep", x, () -> x.keep(far));
            Check.refusesArgument("goBack", x, () -> x.goBack(far));
            Check.refusesIndex("stallOf", x, () -> x.stallOf(far, far));
            Check.refusesArgument("stallOf", x, () -> x.stallOf(0, far));
            Check.refusesArgument("breaker", x, () -> x.breaker(far, 0));
            Check.refusesArgument("breaker", x, () -> x.breaker(0, far));
            Check.refusesArgument("socket", x, () -> x.socket(far, 0));
            Check.refusesArgument("socket", x, () -> x.socket(0, far));
            Check.refusesArgument("count", x, () -> x.count(far));
            Check.refusesIndex("setting", x, () -> x.setting(far));
            Check.refusesIndex("ifPlugged", x, () -> x.ifPlugged(far, far, far, far));
            Check.refusesArgument("ifPlugged", x, () -> x.ifPlugged(0, far, 1, 0));
            Check.refusesArgument("ifPlugged", x, () -> x.ifPlugged(0, 0, far, 0));
            Check.refusesArgument("ifPlugged", x, () -> x.ifPlugged(0, 0, 1, far));
            Check.refusesArgument("tripsIn", x, () -> x.tripsIn(far));
            Check.refusesIndex("bestSocket", x, () -> x.bestSocket(far));
            Check.refusesArgument("leastBound", x, () -> x.leastBound(far));
        }
    }

    private void oneCall() {
        int stalls = model.now.stalls.size();
        int kind = next(22);
        if (stalls == 0 && kind < 14) {
            kind = 0;
        }
        int stall = stalls == 0 ? 0 : next(stalls);
        switch (kind) {
            case 0, 1 -> {
                int load = within(0, 3) == 0 ? within(1, 500) : within(1, 180);
                int from = next(24);
                int to = next(3) == 0 ? (from + 23) % 24 : next(24);
                int rank = within(1, 9);
                expect("stall", model.stall(load, from, to, rank), () -> x.stall(load, from, to, rank));
            }
            case 2, 3, 4 -> {
                int socket = next(12);
                expect("plug", model.plug(stall, socket), () -> x.plug(stall, socket));
            }
            case 5 -> {
                if (next(2) == 0) {
                    expect("pull", model.pull(stall), () -> x.pull(stall));
                }
            }
            case 6 -> expect("shed", model.shed(stall), () -> x.shed(stall));
            case 7 -> {
                int breaker = next(4);
                int bound = next(3) == 0 ? within(10, 999) : within(100, 300);
                expect("bound", model.bound(breaker, bound), () -> x.bound(breaker, bound));
            }
            case 8, 9 -> {
                int breaker = next(4);
                expect("reset", model.reset(breaker), () -> x.reset(breaker));
            }
            case 10 -> {
                int socket = next(9);
                expect("over", model.over(socket), () -> x.over(socket));
            }
            case 11, 12, 13 -> {
                int hours = next(4) == 0 ? within(1, 48) : within(1, 6);
                expect("pass", model.pass(hours), () -> x.pass(hours));
            }
            case 14 -> {
                int setting = next(3);
                int value = setting == 0 ? within(1, 9) : setting == 1 ? next(2) : within(1, 99);
                expect("set", model.set(setting, value), () -> x.set(setting, value));
            }
            case 15, 16 -> plan();
            case 17 -> {
                int slot = next(2);
                expect("keep", model.keep(slot), () -> x.keep(slot));
            }
            case 18 -> {
                int slot = next(2);
                expect("goBack", model.goBack(slot), () -> x.goBack(slot));
            }
            case 19 -> expect("undo", model.undo(), x::undo);
            case 20 -> expect("clearBuffer", model.clearBuffer(), x::clearBuffer);
            default -> wouldBe(stall, stalls);
        }
    }

    private void plan() {
        StringBuilder text = new StringBuilder();
        int orders = within(1, 4);
        for (int k = 0; k < orders; k++) {
            text.append(k == 0 ? "" : ";");
            switch (next(3)) {
                case 0 -> text.append('s').append(within(1, 300)).append('@').append(next(24)).append('-')
                        .append(next(24)).append('*').append(within(1, 9));
                case 1 -> text.append('p').append(next(10)).append('=').append(next(12));
                default -> text.append('h').append(within(1, 12));
            }
        }
        if (next(3) == 0) {
            text.setCharAt(next(text.length()), "0123456789@-*;=sph!".charAt(next(19)));
        }
        for (char sign : text.toString().toCharArray()) {
            expect("append", model.append(sign), () -> x.append(sign));
        }
        expect("firstError", model.firstError(), x::firstError);
        Integer due = model.open();
        if (due == null) {
            Check.refusesArgument("open", x, x::open);
        } else {
            expect("open", due, x::open);
        }
        if (next(3) > 0) {
            expect("clearBuffer", model.clearBuffer(), x::clearBuffer);
        }
    }

    private void wouldBe(int stall, int stalls) {
        int breaker = next(4);
        expect("tripsIn", model.tripsIn(breaker), () -> x.tripsIn(breaker));
        expect("leastBound", model.leastBound(breaker), () -> x.leastBound(breaker));
        if (stalls > 0) {
            int socket = next(12);
            int hours = within(1, 48);
            int what = next(3);
            expect("ifPlugged", model.now.would(stall, socket, hours)[what],
                    () -> x.ifPlugged(stall, socket, hours, what));
            expect("bestSocket", model.bestSocket(stall), () -> x.bestSocket(stall));
        }
    }

    private void look() {
        for (int what = 0; what < 12; what++) {
            Check.same("count " + what, model.count(what), x.count(what));
        }
        for (int k = 0; k < model.now.stalls.size(); k++) {
            for (int what = 0; what < 10; what++) {
                Check.same("stallOf " + k + ", " + what, model.stallOf(k, what), x.stallOf(k, what));
            }
        }
        for (int b = 0; b < 4; b++) {
            for (int what = 0; what < 7; what++) {
                Check.same("breaker " + b + ", " + what, model.breaker(b, what), x.breaker(b, what));
            }
        }
        for (int k = 0; k < 12; k++) {
            Check.same("breaker of socket " + k, model.now.breakerAt(k), x.socket(k, 0));
            Check.same("stall at socket " + k, model.now.stallAt(k), x.socket(k, 1));
        }
        Check.sameDouble("servedShare", model.servedShare(), x.servedShare());
        Check.same("digest", model.digest(), x.digest());
    }

    /** A due null stands for IllegalStateException. */
    private void expect(String what, Integer due, IntSupplier got) {
        call = what;
        if (due == null) {
            Check.refusesState(what, x, got::getAsInt);
        } else {
            Check.same(what, due, got.getAsInt());
        }
    }
}
