import java.util.ArrayDeque;
import java.util.Deque;
import java.util.function.Consumer;
import java.util.function.Supplier;

/** Snapshots, undo, exceptions, and promises 15 to 17: a test of each sentence that names an edge. */
final class EdgeSnapshotTest {
    private static final String SLOTS = "There are two slots; a snapshot is all but the buffer, the slots and the"
            + " saved states.";
    private static final String AT_MOST_6 = "At most 6 states are saved; the oldest one is dropped first.";

    private static final String SAVES = "Each method that is marked \"undoable\" and does not throw an exception"
            + " saves the state from before it (also if it changes nothing): all, also what is counted so far, but"
            + " the buffer, the slots and the saved states.";

    // ---- the section "Snapshots, undo"

    @Says(SLOTS)
    static void termsASnapshotIsAllButTheBufferTheSlotsAndTheSavedStates() {
        MarketSockets x = Edge.busyWithRoom();
        x.keep(0);
        Edge.refuses("a third slot", Edge.ARGUMENT, Edge::busy, y -> y.keep(2));
        changeAll(x);
        x.clearBuffer();
        Check.type(x, "ab");
        x.keep(1);
        x.goBack(0);
        Check.same("saved states are no part of it", 6, x.count(11));
        Check.same("the buffer is no part of it", 2, x.clearBuffer());
        Check.type(x, "h1;p0=");
        MarketSockets untouched = Edge.busyWithRoom();
        untouched.set(0, untouched.setting(0));
        Edge.sameLooks("all else is", untouched, x);
        int hour = x.count(0);
        Check.isTrue("slots are no part of it", x.goBack(1) != hour);
    }

    @Says(SLOTS)
    static void termsASnapshotHasItsOwnStalls() {
        MarketSockets x = Edge.tripped();
        x.keep(0);
        x.undo();
        x.undo();
        Check.open(x, "s1@2-3*4;s5@6-7*8;p0=11;p1=10;h9");
        x.keep(1);
        x.goBack(0);
        MarketSockets y = Edge.tripped();
        for (int what = 0; what < 10; what++) {
            for (int stall = 0; stall < 4; stall++) {
                Check.same("property " + what, y.stallOf(stall, what), x.stallOf(stall, what));
            }
        }
        x.goBack(1);
        int[] first = {1, 2, 3, 4, 11, 0, 2, 0, 1, 0};
        for (int what = 0; what < 10; what++) {
            Check.same("property " + what + " of the other slot", first[what], x.stallOf(0, what));
        }
        Check.same("stalls", 2, x.count(1));
    }

    @Says(SAVES)
    static void termsUndoableMethodsSaveAState() {
        savesOne(x -> x.stall(1, 0, 0, 1));
        savesOne(x -> x.plug(0, 11));
        savesOne(x -> x.pull(0));
        savesOne(x -> x.shed(0));
        savesOne(x -> x.bound(0, 10));
        savesOne(x -> x.reset(1));
        savesOne(x -> x.over(0));
        savesOne(x -> x.pass(48));
        savesOne(x -> x.set(0, 1));
        savesOne(x -> {
            x.clearBuffer();
            Check.type(x, "h48;h48");
            x.open();
            Check.type(x, "h1;p0=");
        });
        savesOne(x -> x.goBack(0));
    }

    @Says(SAVES)
    static void termsTheyDoSoIfTheyChangeNothing() {
        savesOne(x -> x.bound(0, x.breaker(0, 0)));
        savesOne(x -> x.set(0, x.setting(0)));
        savesOne(x -> {
            x.keep(0);
            x.goBack(0);
        }, x -> x.keep(0));
        savesOne(x -> {
            x.clearBuffer();
            Check.same("done", 0, Check.open(x, "p9=0"));
            Check.type(x, "h1;p0=");
        });
    }

    @Says(SAVES)
    static void termsOtherMethodsSaveNone() {
        Supplier<MarketSockets> made = Edge::busyWithRoom;
        Edge.looks(made, x -> {
            x.clearBuffer();
            Check.type(x, "h1;p0=");
            x.firstError();
        });
        MarketSockets x = made.get();
        x.keep(0);
        x.keep(1);
        Check.same("keep saves none", 5, x.count(11));
        x.undo();
        Check.same("undo saves none", 4, x.count(11));
    }

    @Says(SAVES)
    static void termsASavedStateIsAllButTheBufferTheSlotsAndTheSavedStates() {
        MarketSockets x = Edge.busyWithRoom();
        x.set(0, x.setting(0));
        x.clearBuffer();
        Check.type(x, "abc");
        x.keep(0);
        MarketSockets y = Edge.busyWithRoom();
        x.undo();
        Check.same("the buffer is no part of it", 3, x.clearBuffer());
        Check.isTrue("the slots are no part of it", x.goBack(0) != y.goBack(0));
        x.undo();
        y.undo();
        Check.type(x, "h1;p0=");
        Edge.sameLooks("all else is", y, x);
    }

    @Says(AT_MOST_6)
    static void termsTheOldestOfSevenIsDropped() {
        MarketSockets x = new MarketSockets();
        for (int call = 1; call <= 20; call++) {
            x.bound(0, 100 + call);
            Check.same("saved states", Math.min(6, call), x.count(11));
        }
        for (int left = 5; left >= 0; left--) {
            Check.same("left", left, x.undo());
            Check.same("bound", 114 + left, x.breaker(0, 0));
        }
        Edge.refuses("a seventh one", Edge.STATE, () -> afterUndos(20, 6), MarketSockets::undo);
    }

    @Says(AT_MOST_6)
    static void termsCallsAndUndosMayTakeTurns() {
        MarketSockets x = new MarketSockets();
        Deque<Integer> saved = new ArrayDeque<>();
        int bound = 200;
        int seed = 5;
        for (int call = 0; call < 200; call++) {
            seed = seed * 1103515245 + 12345;
            boolean undoes = (seed >>> 16) % 5 < 2 && !saved.isEmpty();
            if (undoes) {
                bound = saved.removeLast();
                Check.same("left", saved.size(), x.undo());
            } else {
                saved.addLast(bound);
                bound = 10 + call;
                x.bound(2, bound);
            }
            if (saved.size() > 6) {
                saved.removeFirst();
            }
            Check.same("bound", bound, x.breaker(2, 0));
            Check.same("saved states", saved.size(), x.count(11));
        }
    }

    // ---- the section "Exceptions"

    @Says("A call that throws an exception changes nothing.")
    static void termsRefusedCallsChangeNothing() {
        Edge.refuses("stall", Edge.ARGUMENT, Edge::busy, x -> x.stall(0, 0, 0, 1));
        Edge.refuses("stall", Edge.STATE, Edge::full, x -> x.stall(1, 0, 0, 1));
        Edge.refuses("plug", Edge.INDEX, Edge::busy, x -> x.plug(4, 11));
        Edge.refuses("plug", Edge.ARGUMENT, Edge::busy, x -> x.plug(0, 12));
        Edge.refuses("plug", Edge.STATE, Edge::busy, x -> x.plug(0, 1));
        Edge.refuses("pull", Edge.INDEX, Edge::busy, x -> x.pull(4));
        Edge.refuses("pull", Edge.STATE, Edge::full, x -> x.pull(0));
        Edge.refuses("shed", Edge.INDEX, Edge::busy, x -> x.shed(4));
        Edge.refuses("bound", Edge.ARGUMENT, Edge::busy, x -> x.bound(0, 1000));
        Edge.refuses("reset", Edge.ARGUMENT, Edge::busy, x -> x.reset(4));
        Edge.refuses("reset", Edge.STATE, Edge::busy, x -> x.reset(2));
        Edge.refuses("over", Edge.ARGUMENT, Edge::busy, x -> x.over(9));
        Edge.refuses("pass", Edge.ARGUMENT, Edge::busy, x -> x.pass(49));
        Edge.refuses("pass", Edge.STATE, EdgeSnapshotTest::busyAt9999, x -> x.pass(1));
        Edge.refuses("set", Edge.INDEX, Edge::busy, x -> x.set(3, 1));
        Edge.refuses("set", Edge.ARGUMENT, Edge::busy, x -> x.set(0, 10));
        Edge.refuses("append", Edge.ARGUMENT, Edge::busy, x -> x.append(32));
        Edge.refuses("append", Edge.STATE, EdgeSnapshotTest::withAFullBuffer, x -> x.append(33));
        Edge.refuses("open", Edge.ARGUMENT, Edge::busy, MarketSockets::open);
        Edge.refuses("keep", Edge.ARGUMENT, Edge::busy, x -> x.keep(2));
        Edge.refuses("goBack", Edge.ARGUMENT, Edge::busy, x -> x.goBack(2));
        Edge.refuses("goBack", Edge.STATE, Edge::full, x -> x.goBack(1));
        Edge.refuses("undo", Edge.STATE, () -> afterUndos(9, 6), MarketSockets::undo);
        Edge.refuses("stallOf", Edge.INDEX, Edge::busy, x -> x.stallOf(4, 0));
        Edge.refuses("stallOf", Edge.ARGUMENT, Edge::busy, x -> x.stallOf(0, 10));
        Edge.refuses("breaker", Edge.ARGUMENT, Edge::busy, x -> x.breaker(0, 7));
        Edge.refuses("socket", Edge.ARGUMENT, Edge::busy, x -> x.socket(0, 2));
        Edge.refuses("count", Edge.ARGUMENT, Edge::busy, x -> x.count(12));
        Edge.refuses("setting", Edge.INDEX, Edge::busy, x -> x.setting(3));
        Edge.refuses("ifPlugged", Edge.INDEX, Edge::busy, x -> x.ifPlugged(4, 0, 1, 0));
        Edge.refuses("ifPlugged", Edge.ARGUMENT, Edge::busy, x -> x.ifPlugged(0, 0, 49, 0));
        Edge.refuses("tripsIn", Edge.ARGUMENT, Edge::busy, x -> x.tripsIn(4));
        Edge.refuses("bestSocket", Edge.INDEX, Edge::busy, x -> x.bestSocket(4));
        Edge.refuses("leastBound", Edge.ARGUMENT, Edge::busy, x -> x.leastBound(4));
    }

    @Says("If several exceptions apply, the one that is named first in the throws clause is thrown.")
    static void termsTheFirstExceptionOfTheThrowsClauseIsThrown() {
        Edge.refuses("stall", Edge.ARGUMENT, Edge::full, x -> x.stall(501, 0, 0, 1));
        Edge.refuses("plug", Edge.INDEX, Edge::busy, x -> x.plug(4, 12));
        Edge.refuses("plug", Edge.INDEX, Edge::busy, x -> x.plug(-1, 0));
        Edge.refuses("pull", Edge.INDEX, Edge::full, x -> x.pull(10));
        Edge.refuses("reset", Edge.ARGUMENT, Edge::one, x -> x.reset(-1));
        Edge.refuses("pass", Edge.ARGUMENT, EdgeSnapshotTest::busyAt9999, x -> x.pass(49));
        Edge.refuses("set", Edge.INDEX, Edge::busy, x -> x.set(3, 0));
        Edge.refuses("append", Edge.ARGUMENT, EdgeSnapshotTest::withAFullBuffer, x -> x.append(127));
        Edge.refuses("goBack", Edge.ARGUMENT, MarketSockets::new, x -> x.goBack(2));
        Edge.refuses("stallOf", Edge.INDEX, Edge::busy, x -> x.stallOf(4, 10));
        Edge.refuses("ifPlugged", Edge.INDEX, Edge::busy, x -> x.ifPlugged(4, 12, 0, 3));
    }

    @Says("The constants: `NONE = -1`: There is nothing to return.")
    static void termsNoneIsMinus1() {
        Check.same("NONE", -1, MarketSockets.NONE);
        MarketSockets x = Edge.one();
        Check.same("plug", MarketSockets.NONE, x.plug(0, 0));
        Check.same("ifPlugged", MarketSockets.NONE, Edge.on(0, 1, 1).ifPlugged(0, 1, 1, 0));
        x.pull(0);
        Check.same("stallOf", MarketSockets.NONE, x.stallOf(0, 4));
        Check.same("socket", MarketSockets.NONE, x.socket(0, 1));
        Check.same("tripsIn", MarketSockets.NONE, x.tripsIn(0));
        Check.same("leastBound", MarketSockets.NONE, Edge.on(0, 500, 500).leastBound(0));
    }

    // ---- promise 15

    @Says("Takes a snapshot, in place of the one in the slot.")
    static void promise15TakesThePlaceOfTheLastOne() {
        MarketSockets x = new MarketSockets();
        for (int hour = 0; hour < 5; hour++) {
            x.keep(0);
            x.pass(1);
        }
        x.keep(1);
        Check.same("the latest", 4, x.goBack(0));
        Check.same("the other slot's", 5, x.goBack(1));
        Check.same("the latest, once more", 4, x.goBack(0));
        Check.same("keep saves no state", 6, x.count(11));
    }

    @Says("`slot`: 0 or 1")
    static void promise15SlotIs0Or1() {
        Edge.range(Edge.ARGUMENT, Edge::full, 0, 1, (x, slot) -> {
            x.keep(slot);
            Check.same("it has a snapshot", 0, x.goBack(slot));
            Edge.refuses("the other one has none", Edge.STATE, () -> {
                MarketSockets y = Edge.full();
                y.keep(slot);
                return y;
            }, y -> y.goBack(1 - slot));
        });
    }

    @Says("Returns the hour.")
    static void promise15ReturnsTheHour() {
        MarketSockets x = new MarketSockets();
        Check.same("at first", 0, x.keep(0));
        x.pass(48);
        Check.same("then", 48, x.keep(1));
        Edge.passTo(x, 9999);
        Check.same("at last", 9999, x.keep(0));
    }

    @Says("Throws `IllegalArgumentException` if slot is out of range")
    static void promise15RefusesASlotOutOfRange() {
        for (int slot : new int[] {-1, 2, 3}) {
            Edge.refuses("keep " + slot, Edge.ARGUMENT, Edge::busy, x -> x.keep(slot));
            Edge.refuses("keep " + slot, Edge.ARGUMENT, MarketSockets::new, x -> x.keep(slot));
        }
    }

    // ---- promise 16

    @Says("Goes back to a snapshot, which stays.")
    static void promise16TheSnapshotStays() {
        MarketSockets x = Edge.busy();
        int hour = x.goBack(0);
        long kept = x.digest();
        for (int k = 0; k < 3; k++) {
            changeAll(x);
            Check.same("again", hour, x.goBack(0));
            Check.same("the same", kept, x.digest());
        }
        x.undo();
        Check.same("also after undo", hour, x.goBack(0));
    }

    @Says("Undoable.")
    static void promise16IsUndoable() {
        Edge.undoable(Edge::busyWithRoom, x -> x.goBack(0));
        Edge.undoable(Edge::busyWithRoom, x -> x.goBack(1));
    }

    @Says("`slot`: 0 or 1")
    static void promise16SlotIs0Or1() {
        Edge.range(Edge.ARGUMENT, Edge::busy, 0, 1, (x, slot) -> Check.same("hour", slot == 0 ? 31 : 49,
                x.goBack(slot)));
    }

    @Says("Returns the hour then.")
    static void promise16ReturnsTheHourThen() {
        MarketSockets x = new MarketSockets();
        x.keep(0);
        x.pass(48);
        x.keep(1);
        x.pass(1);
        Check.same("the first hour", 0, x.goBack(0));
        Check.same("it is now", 0, x.count(0));
        Check.same("a later one", 48, x.goBack(1));
        Check.same("it is now", 48, x.count(0));
    }

    @Says("Throws `IllegalArgumentException` if slot is out of range")
    static void promise16RefusesASlotOutOfRange() {
        for (int slot : new int[] {-1, 2, 3}) {
            Edge.refuses("goBack " + slot, Edge.ARGUMENT, Edge::busy, x -> x.goBack(slot));
            Edge.refuses("goBack " + slot, Edge.ARGUMENT, MarketSockets::new, x -> x.goBack(slot));
        }
    }

    @Says("Throws `IllegalStateException` if there is no snapshot in it")
    static void promise16RefusesAnEmptySlot() {
        for (int slot = 0; slot < 2; slot++) {
            int which = slot;
            Edge.refuses("goBack " + slot, Edge.STATE, MarketSockets::new, x -> x.goBack(which));
            Edge.refuses("goBack " + slot + ", only the other one taken", Edge.STATE, () -> {
                MarketSockets x = Edge.full();
                x.keep(1 - which);
                return x;
            }, x -> x.goBack(which));
        }
    }

    // ---- promise 17

    @Says("Restores the latest saved state, and drops it.")
    static void promise17DropsWhatItRestores() {
        MarketSockets x = new MarketSockets();
        x.set(2, 50);
        x.set(2, 60);
        x.undo();
        Check.same("the latest", 50, x.setting(2));
        x.set(2, 70);
        x.undo();
        Check.same("the latest then", 50, x.setting(2));
        x.undo();
        Check.same("the one before it", 3, x.setting(2));
    }

    @Says("Returns how many saved states are left.")
    static void promise17ReturnsHowManyAreLeft() {
        for (int calls = 1; calls <= 8; calls++) {
            MarketSockets x = afterUndos(calls, 0);
            for (int left = Math.min(6, calls) - 1; left >= 0; left--) {
                Check.same("left", left, x.undo());
                Check.same("count", left, x.count(11));
            }
        }
    }

    @Says("Throws `IllegalStateException` if there is none")
    static void promise17RefusesWithoutOne() {
        Edge.refuses("at first", Edge.STATE, MarketSockets::new, MarketSockets::undo);
        Edge.refuses("after the only one", Edge.STATE, () -> afterUndos(1, 1), MarketSockets::undo);
        Edge.refuses("after all six", Edge.STATE, () -> afterUndos(7, 6), MarketSockets::undo);
    }

    // ---- what is held of calls

    /** The call saves just the state that was there, with room for it and without. */
    private static void savesOne(Consumer<MarketSockets> call) {
        savesOne(call, x -> x.count(0));
    }

    /** The same; what else the call does to the slots is done to the market that it is held against. */
    private static void savesOne(Consumer<MarketSockets> call, Consumer<MarketSockets> toSlots) {
        MarketSockets x = Edge.busyWithRoom();
        call.accept(x);
        Check.same("saved states", 6, x.count(11));
        Check.same("left", 5, x.undo());
        MarketSockets untouched = Edge.busyWithRoom();
        toSlots.accept(untouched);
        Edge.sameWhole("undone", untouched, x);
        MarketSockets y = Edge.busy();
        call.accept(y);
        Check.same("still six", 6, y.count(11));
        Check.same("left", 5, y.undo());
        Check.same("hour of the state before", Edge.busy().count(0), y.count(0));
        Check.same("bound of the state before", 222, y.breaker(0, 0));
    }

    private static MarketSockets afterUndos(int calls, int undos) {
        MarketSockets x = new MarketSockets();
        for (int call = 1; call <= calls; call++) {
            x.bound(1, 300 + call);
        }
        for (int k = 0; k < undos; k++) {
            x.undo();
        }
        return x;
    }

    private static MarketSockets busyAt9999() {
        MarketSockets x = Edge.busy();
        Edge.passTo(x, 9999);
        return x;
    }

    private static MarketSockets withAFullBuffer() {
        MarketSockets x = Edge.busy();
        x.clearBuffer();
        Check.type(x, "h1;".repeat(20));
        return x;
    }

    /** Changes each part of the state. */
    private static void changeAll(MarketSockets x) {
        x.stall(33, 1, 2, 3);
        x.plug(4, 11);
        x.pull(0);
        x.shed(1);
        x.over(5);
        x.bound(2, 345);
        x.set(0, 8);
        x.set(1, 1);
        x.set(2, 50);
        x.pass(1);
        x.bound(3, 10);
        x.pass(40);
    }
}
