/** Promises 2 to 5: stalls come, are plugged in, pulled out and shed. */
final class StallTest {
    static void promise2StallsAreNumberedAsTheyCome() {
        MarketSockets x = new MarketSockets();
        for (int stall = 0; stall < 10; stall++) {
            Check.same("stall", stall, x.stall(stall + 1, stall, 23 - stall, 1 + stall % 9));
        }
        for (int stall = 0; stall < 10; stall++) {
            Check.same("load", stall + 1, x.stallOf(stall, 0));
            Check.same("from", stall, x.stallOf(stall, 1));
            Check.same("to", 23 - stall, x.stallOf(stall, 2));
            Check.same("rank", 1 + stall % 9, x.stallOf(stall, 3));
            Check.same("socket", MarketSockets.NONE, x.stallOf(stall, 4));
            Check.same("shed", 0, x.stallOf(stall, 5));
            Check.same("meter", 0, x.stallOf(stall, 6));
            Check.same("dark hours", 0, x.stallOf(stall, 7));
        }
        Check.refusesState("an 11th stall", x, () -> x.stall(1, 0, 0, 1));
        Check.refusesArgument("an 11th stall with a wrong load", x, () -> x.stall(0, 0, 0, 1));
    }

    static void promise2TakesTheEdgesAndNoMore() {
        MarketSockets x = new MarketSockets();
        Check.same("least", 0, x.stall(1, 0, 0, 1));
        Check.same("greatest", 1, x.stall(500, 23, 23, 9));
        int[][] wrong = {
            {0, 0, 0, 1}, {501, 0, 0, 1}, {-1, 0, 0, 1}, {1, -1, 0, 1}, {1, 24, 0, 1}, {1, 0, -1, 1}, {1, 0, 24, 1},
            {1, 0, 0, 0}, {1, 0, 0, 10}, {Integer.MIN_VALUE, 0, 0, 1}, {1, Integer.MAX_VALUE, 0, 1},
            {1, 0, Integer.MIN_VALUE, 1}, {1, 0, 0, Integer.MAX_VALUE}};
        for (int[] a : wrong) {
            Check.refusesArgument("stall " + java.util.Arrays.toString(a), x, () -> x.stall(a[0], a[1], a[2], a[3]));
        }
        Check.same("stalls", 2, x.count(1));
    }

    static void promise2IsUndoable() {
        MarketSockets x = new MarketSockets();
        x.stall(7, 0, 23, 1);
        x.plug(0, 4);
        x.shed(0);
        x.pass(1);
        for (int k = 0; k < 4; k++) {
            x.undo();
        }
        Check.same("stalls", 0, x.count(1));
        Check.refusesIndex("a stall that has not come", x, () -> x.stallOf(0, 0));
        x.stall(8, 1, 2, 3);
        Check.same("socket of the new stall", -1, x.stallOf(0, 4));
        Check.same("shed of the new stall", 0, x.stallOf(0, 5));
        Check.same("dark hours of the new stall", 0, x.stallOf(0, 7));
    }

    static void promise3PlugsAndMoves() {
        MarketSockets x = new MarketSockets();
        x.stall(7, 0, 23, 1);
        x.stall(9, 0, 23, 1);
        Check.same("plug", -1, x.plug(0, 0));
        Check.same("plug elsewhere", 0, x.plug(0, 11));
        Check.same("plug into the left one", -1, x.plug(1, 0));
        Check.same("socket", 11, x.stallOf(0, 4));
        Check.same("stall at 0", 1, x.socket(0, 1));
        Check.same("stall at 11", 0, x.socket(11, 1));
        x.undo();
        Check.same("stall at 0 after undo", -1, x.socket(0, 1));
        x.undo();
        Check.same("socket after undo", 0, x.stallOf(0, 4));
    }

    static void promise3Refuses() {
        MarketSockets x = new MarketSockets();
        Check.refusesIndex("no stall", x, () -> x.plug(0, 0));
        Check.refusesIndex("no stall, wrong socket", x, () -> x.plug(0, 12));
        x.stall(7, 0, 23, 1);
        x.stall(9, 0, 23, 1);
        x.plug(0, 5);
        Check.refusesIndex("stall -1", x, () -> x.plug(-1, 5));
        Check.refusesIndex("stall 2", x, () -> x.plug(2, 5));
        Check.refusesArgument("socket 12", x, () -> x.plug(0, 12));
        Check.refusesArgument("socket -1", x, () -> x.plug(0, -1));
        Check.refusesState("its own socket", x, () -> x.plug(0, 5));
        Check.refusesState("another's socket", x, () -> x.plug(1, 5));
    }

    static void promise4Pulls() {
        MarketSockets x = new MarketSockets();
        Check.refusesIndex("no stall", x, () -> x.pull(0));
        x.stall(7, 0, 23, 1);
        Check.refusesState("at no socket", x, () -> x.pull(0));
        x.plug(0, 6);
        Check.same("pull", 6, x.pull(0));
        Check.same("socket", -1, x.stallOf(0, 4));
        Check.same("stall at 6", -1, x.socket(6, 1));
        Check.refusesState("pulled", x, () -> x.pull(0));
        Check.refusesIndex("stall 1", x, () -> x.pull(1));
        Check.refusesIndex("stall -1", x, () -> x.pull(-1));
        x.undo();
        Check.same("socket after undo", 6, x.stallOf(0, 4));
    }

    static void promise5Sheds() {
        MarketSockets x = new MarketSockets();
        Check.refusesIndex("no stall", x, () -> x.shed(0));
        x.stall(7, 0, 23, 1);
        x.plug(0, 0);
        Check.same("shed", 1, x.shed(0));
        Check.same("is shed", 1, x.stallOf(0, 5));
        Check.same("reason", 4, x.stallOf(0, 8));
        Check.same("shed by rank", 0, x.count(10));
        Check.same("let draw", 0, x.shed(0));
        Check.same("reason", 0, x.stallOf(0, 8));
        x.undo();
        Check.same("is shed after undo", 1, x.stallOf(0, 5));
        Check.refusesIndex("stall 1", x, () -> x.shed(1));
        Check.refusesIndex("stall -1", x, () -> x.shed(-1));
    }
}
