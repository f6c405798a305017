import java.util.function.Supplier;

/** Promises 1 to 5: a test of each sentence that names an edge. */
final class EdgeStallTest {
    @Says("Creates a market without stalls, at the hour 0, with empty slots and an empty buffer.")
    static void promise1IsEmpty() {
        MarketSockets x = new MarketSockets();
        Check.same("stalls", 0, x.count(1));
        Check.same("hour", 0, x.count(0));
        Check.same("first error", 0, x.firstError());
        Check.same("length of the buffer", 0, x.clearBuffer());
        Edge.refuses("stall 0", Edge.INDEX, MarketSockets::new, y -> y.stallOf(0, 0));
        Edge.refuses("slot 0", Edge.STATE, MarketSockets::new, y -> y.goBack(0));
        Edge.refuses("slot 1", Edge.STATE, MarketSockets::new, y -> y.goBack(1));
    }

    // ---- promise 2

    @Says("Adds a stall.")
    static void promise2AddsItBehindTheOthers() {
        MarketSockets x = Edge.busy();
        int stalls = x.count(1);
        int dark = x.count(8);
        x.stall(77, 5, 4, 8);
        int[] due = {77, 5, 4, 8, -1, 0, 0, 0, 2, 0};
        for (int what = 0; what < 10; what++) {
            Check.same("its property " + what, due[what], x.stallOf(stalls, what));
        }
        Check.same("stalls", stalls + 1, x.count(1));
        Check.same("dark hours of all", dark, x.count(8));
        Check.same("load of the one before it", 30, x.stallOf(stalls - 1, 0));
    }

    @Says("Adds a stall.")
    static void promise2BeginsAnew() {
        MarketSockets x = new MarketSockets();
        x.keep(0);
        Check.open(x, "s9@0-23*9;h2;p0=4;h3");
        x.shed(0);
        Check.same("meter of the one before", 27, x.stallOf(0, 6));
        x.goBack(0);
        Check.same("number", 0, x.stall(77, 5, 4, 8));
        int[] due = {77, 5, 4, 8, -1, 0, 0, 0, 2, 0};
        for (int what = 0; what < 10; what++) {
            Check.same("its property " + what, due[what], x.stallOf(0, what));
        }
    }

    @Says("Undoable.")
    static void promise2IsUndoable() {
        Edge.undoable(MarketSockets::new, x -> x.stall(500, 23, 0, 9));
        Edge.undoable(Edge::busyWithRoom, x -> x.stall(1, 0, 23, 1));
    }

    @Says("`load`: 1 to 500")
    static void promise2LoadIs1To500() {
        Edge.range(Edge.ARGUMENT, Edge::one, 1, 500, (x, load) -> {
            x.stall(load, 0, 0, 1);
            Check.same("load", load, x.stallOf(1, 0));
        });
    }

    @Says("`from`: 0 to 23, the hour of the day from which on it wants its load")
    static void promise2FromIs0To23() {
        Edge.range(Edge.ARGUMENT, Edge::one, 0, 23, (x, from) -> {
            x.stall(1, from, (from + 5) % 24, 1);
            Check.same("from", from, x.stallOf(1, 1));
            x.pass(23 + from);
            Check.same("does not want it in the hour before " + from, 1, x.stallOf(1, 8));
            x.pass(1);
            Check.same("wants it from " + from + " on", 2, x.stallOf(1, 8));
            x.pass(1);
            Check.same("wants it after " + from, 2, x.stallOf(1, 8));
        });
    }

    @Says("`to`: 0 to 23, the last one in which it does")
    static void promise2ToIs0To23() {
        Edge.range(Edge.ARGUMENT, Edge::one, 0, 23, (x, to) -> {
            x.stall(1, (to + 19) % 24, to, 1);
            Check.same("to", to, x.stallOf(1, 2));
            x.pass(23 + to);
            Check.same("wants it before " + to, 2, x.stallOf(1, 8));
            x.pass(1);
            Check.same("wants it in the last hour " + to, 2, x.stallOf(1, 8));
            x.pass(1);
            Check.same("does not want it after " + to, 1, x.stallOf(1, 8));
        });
    }

    @Says("`rank`: 1 to 9")
    static void promise2RankIs1To9() {
        Edge.range(Edge.ARGUMENT, Edge::one, 1, 9, (x, rank) -> {
            x.stall(1, 0, 0, rank);
            Check.same("rank", rank, x.stallOf(1, 3));
        });
    }

    @Says("Returns its number.")
    static void promise2ReturnsItsNumber() {
        MarketSockets x = new MarketSockets();
        for (int stall = 0; stall < 10; stall++) {
            Check.same("stall", stall, x.stall(1, 0, 0, 1));
        }
        x.undo();
        x.undo();
        Check.same("the number of one that has not come is free again", 8, x.stall(1, 0, 0, 1));
    }

    @Says("Throws `IllegalArgumentException` if an argument is out of range")
    static void promise2RefusesAnyArgumentOutOfRange() {
        int[][] wrong = {{0, 5, 5, 5}, {501, 5, 5, 5}, {5, -1, 5, 5}, {5, 24, 5, 5}, {5, 5, -1, 5}, {5, 5, 24, 5},
            {5, 5, 5, 0}, {5, 5, 5, 10}, {0, -1, 24, 10}, {501, 24, -1, 0}, {-5, -5, -5, -5}};
        for (int[] a : wrong) {
            String what = "stall " + a[0] + " " + a[1] + " " + a[2] + " " + a[3];
            Edge.refuses(what, Edge.ARGUMENT, MarketSockets::new, x -> x.stall(a[0], a[1], a[2], a[3]));
            Edge.refuses(what, Edge.ARGUMENT, Edge::busy, x -> x.stall(a[0], a[1], a[2], a[3]));
            Edge.refuses(what + ", an 11th", Edge.ARGUMENT, Edge::full, x -> x.stall(a[0], a[1], a[2], a[3]));
        }
    }

    @Says("Throws `IllegalStateException` if there are 10")
    static void promise2RefusesAn11th() {
        Edge.refuses("an 11th", Edge.STATE, Edge::full, x -> x.stall(1, 0, 0, 1));
        MarketSockets x = Edge.full();
        x.undo();
        Check.same("a ninth, after undo", 8, x.stall(1, 0, 0, 1));
        Check.same("a tenth", 9, x.stall(1, 0, 0, 1));
        Check.same("stalls", 10, x.count(1));
    }

    // ---- promise 3

    @Says("Plugs a stall into a socket, in place of the one where it is.")
    static void promise3MovesFromItsSocket() {
        MarketSockets x = Edge.one();
        x.stall(50, 0, 23, 1);
        for (int socket = 0; socket < 12; socket++) {
            x.plug(0, socket);
            for (int other = 0; other < 12; other++) {
                Check.same("stall at " + other, other == socket ? 0 : -1, x.socket(other, 1));
            }
            Check.same("at sockets", 1, x.count(2));
        }
        x.plug(0, 3);
        x.plug(1, 11);
        Check.same("another one at the socket that it left", 1, x.socket(11, 1));
        Check.same("at sockets", 2, x.count(2));
    }

    @Says("Undoable.")
    static void promise3IsUndoable() {
        Edge.undoable(Edge::one, x -> x.plug(0, 11));
        Edge.undoable(Edge::busyWithRoom, x -> x.plug(0, 11));
    }

    @Says("`stall`: its number")
    static void promise3TakesAnyStall() {
        Edge.range(Edge.INDEX, Edge::full, 0, 9, (x, stall) -> {
            x.plug(stall, 11);
            Check.same("stall at 11", stall, x.socket(11, 1));
            Check.same("at sockets", 1, x.count(2));
        });
    }

    @Says("`socket`: 0 to 11")
    static void promise3SocketIs0To11() {
        Edge.range(Edge.ARGUMENT, Edge::one, 0, 11, (x, socket) -> {
            x.plug(0, socket);
            Check.same("socket", socket, x.stallOf(0, 4));
        });
    }

    @Says("Returns the socket where it was, NONE without one.")
    static void promise3ReturnsWhereItWas() {
        MarketSockets x = Edge.one();
        Check.same("without one", MarketSockets.NONE, x.plug(0, 0));
        for (int socket = 1; socket < 12; socket++) {
            Check.same("where it was", socket - 1, x.plug(0, socket));
        }
        x.pull(0);
        Check.same("without one again", MarketSockets.NONE, x.plug(0, 5));
    }

    @Says("Throws `IndexOutOfBoundsException` if there is no such stall")
    static void promise3RefusesWithoutTheStall() {
        Edge.refuses("without stalls", Edge.INDEX, MarketSockets::new, x -> x.plug(0, 0));
        for (int stall : new int[] {-1, 4, 9, 10, 12}) {
            Edge.refuses("stall " + stall, Edge.INDEX, Edge::busy, x -> x.plug(stall, 11));
            Edge.refuses("stall " + stall + ", no socket", Edge.INDEX, Edge::busy, x -> x.plug(stall, 12));
            Edge.refuses("stall " + stall + ", a taken socket", Edge.INDEX, Edge::busy, x -> x.plug(stall, 0));
        }
    }

    @Says("Throws `IllegalArgumentException` if socket is out of range")
    static void promise3RefusesASocketOutOfRange() {
        Edge.refuses("socket -1 of one at none", Edge.ARGUMENT, Edge::one, x -> x.plug(0, MarketSockets.NONE));
        Edge.refuses("socket -1 of one at a socket", Edge.ARGUMENT, Edge::busy, x -> x.plug(0, -1));
        Edge.refuses("socket 12", Edge.ARGUMENT, Edge::busy, x -> x.plug(0, 12));
    }

    @Says("Throws `IllegalStateException` if a stall is at this socket (this one, too)")
    static void promise3RefusesATakenSocket() {
        for (int socket = 0; socket < 12; socket++) {
            int there = socket;
            Supplier<MarketSockets> made = () -> {
                MarketSockets x = Edge.full();
                x.plug(9, there);
                return x;
            };
            Edge.refuses("another's socket " + socket, Edge.STATE, made, x -> x.plug(0, there));
            Edge.refuses("its own socket " + socket, Edge.STATE, made, x -> x.plug(9, there));
        }
    }

    // ---- promise 4

    @Says("Pulls a stall out of its socket.")
    static void promise4LeavesTheSocketFree() {
        MarketSockets x = Edge.busy();
        x.pull(0);
        Check.same("socket", -1, x.stallOf(0, 4));
        Check.same("stall at its socket", -1, x.socket(0, 1));
        Check.same("at sockets", 3, x.count(2));
        Check.same("another one into it", 1, x.plug(1, 0));
    }

    @Says("Undoable.")
    static void promise4IsUndoable() {
        Edge.undoable(() -> Edge.on(3, 40), x -> x.pull(0));
        Edge.undoable(Edge::busyWithRoom, x -> x.pull(2));
    }

    @Says("`stall`: its number")
    static void promise4TakesAnyStall() {
        Edge.range(Edge.INDEX, EdgeStallTest::allPlugged, 0, 9, (x, stall) -> {
            x.pull(stall);
            Check.same("socket", -1, x.stallOf(stall, 4));
            Check.same("at sockets", 9, x.count(2));
        });
    }

    @Says("Returns the socket where it was.")
    static void promise4ReturnsWhereItWas() {
        for (int socket = 0; socket < 12; socket++) {
            MarketSockets x = Edge.one();
            x.plug(0, socket);
            Check.same("pull", socket, x.pull(0));
        }
    }

    @Says("Throws `IndexOutOfBoundsException` if there is no such stall")
    static void promise4RefusesWithoutTheStall() {
        Edge.refuses("without stalls", Edge.INDEX, MarketSockets::new, x -> x.pull(0));
        for (int stall : new int[] {-1, 4, 9, 10}) {
            Edge.refuses("stall " + stall, Edge.INDEX, Edge::busy, x -> x.pull(stall));
        }
    }

    @Says("Throws `IllegalStateException` if it is at none")
    static void promise4RefusesOneAtNone() {
        Edge.refuses("never plugged in", Edge.STATE, Edge::one, x -> x.pull(0));
        Edge.refuses("pulled", Edge.STATE, () -> {
            MarketSockets x = Edge.busy();
            x.pull(0);
            return x;
        }, x -> x.pull(0));
    }

    // ---- promise 5

    @Says("Sheds a stall, or lets it draw again, if it is shed.")
    static void promise5Switches() {
        MarketSockets x = Edge.on(0, 40);
        x.shed(0);
        Check.same("reason of a shed one", 4, x.stallOf(0, 8));
        x.shed(0);
        Check.same("reason of one that draws again", 0, x.stallOf(0, 8));
        x.set(1, 1);
        x.bound(0, 10);
        x.pass(1);
        Check.same("shed by rank", 1, x.stallOf(0, 5));
        x.shed(0);
        Check.same("it draws again", 0, x.stallOf(0, 8));
        x.pull(0);
        x.shed(0);
        Check.same("shed at no socket", 1, x.stallOf(0, 5));
        x.plug(0, 5);
        Check.same("and still at a socket", 1, x.stallOf(0, 5));
    }

    @Says("Undoable.")
    static void promise5IsUndoable() {
        Edge.undoable(Edge::one, x -> x.shed(0));
        Edge.undoable(Edge::busyWithRoom, x -> x.shed(0));
        Edge.undoable(Edge::busyWithRoom, x -> x.shed(3));
    }

    @Says("`stall`: its number")
    static void promise5TakesAnyStall() {
        Edge.range(Edge.INDEX, Edge::full, 0, 9, (x, stall) -> {
            x.shed(stall);
            for (int other = 0; other < 10; other++) {
                Check.same("shed", other == stall ? 1 : 0, x.stallOf(other, 5));
            }
        });
    }

    @Says("Returns 1 if it is shed then, otherwise 0.")
    static void promise5ReturnsWhetherItIsShed() {
        MarketSockets x = Edge.one();
        for (int k = 0; k < 4; k++) {
            Check.same("shed", 1, x.shed(0));
            Check.same("not shed", 0, x.shed(0));
        }
    }

    @Says("Throws `IndexOutOfBoundsException` if there is no such stall")
    static void promise5RefusesWithoutTheStall() {
        Edge.refuses("without stalls", Edge.INDEX, MarketSockets::new, x -> x.shed(0));
        for (int stall : new int[] {-1, 4, 9, 10}) {
            Edge.refuses("stall " + stall, Edge.INDEX, Edge::busy, x -> x.shed(stall));
        }
    }

    /** Ten stalls at the sockets 0 to 9. */
    static MarketSockets allPlugged() {
        MarketSockets x = Edge.full();
        for (int stall = 0; stall < 10; stall++) {
            x.plug(stall, stall);
        }
        return x;
    }
}
