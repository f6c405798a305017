/** Promises 15 to 17: snapshots and undo. */
final class SnapshotTest {
    static void promise15Keeps() {
        MarketSockets x = new MarketSockets();
        x.pass(7);
        Check.same("keep", 7, x.keep(0));
        Check.same("not undoable", 1, x.count(11));
        x.pass(2);
        Check.same("keep in its place", 9, x.keep(0));
        Check.same("goBack", 9, x.goBack(0));
        Check.refusesArgument("slot 2", x, () -> x.keep(2));
        Check.refusesArgument("slot -1", x, () -> x.keep(-1));
        Check.refusesState("the other slot", x, () -> x.goBack(1));
    }

    static void promise16GoesBackWithAllButTheBuffer() {
        MarketSockets x = filled();
        x.keep(1);
        long[] kept = looks(x);
        int saved = x.count(11);
        change(x);
        Check.type(x, "h1");
        Check.same("goBack", 31, x.goBack(1));
        expectLooks("a snapshot", kept, looks(x));
        Check.same("saved states are no part of it", 6, x.count(11));
        Check.isTrue("other saved states", saved <= 6);
        Check.same("the buffer is no part of it", 2, x.clearBuffer());
        change(x);
        Check.same("it stays", 31, x.goBack(1));
        expectLooks("a snapshot again", kept, looks(x));
    }

    static void promise16IsUndoable() {
        MarketSockets x = new MarketSockets();
        x.keep(0);
        x.pass(5);
        Check.same("goBack", 0, x.goBack(0));
        Check.same("saved", 2, x.count(11));
        Check.same("undo", 1, x.undo());
        Check.same("hour", 5, x.count(0));
        Check.same("slots outlive undo", 0, x.goBack(0));
    }

    static void promise16Refuses() {
        MarketSockets x = new MarketSockets();
        Check.refusesArgument("slot 2", x, () -> x.goBack(2));
        Check.refusesArgument("slot -1", x, () -> x.goBack(-1));
        Check.refusesState("an empty slot", x, () -> x.goBack(0));
        x.keep(1);
        Check.refusesState("the other one", x, () -> x.goBack(0));
        Check.same("the full one", 0, x.goBack(1));
    }

    static void promise17RestoresTheLatest() {
        MarketSockets x = filled();
        long[] before = looks(x);
        Check.refusesArgument("a call that throws", x, () -> x.bound(0, 9));
        x.bound(0, 77);
        x.over(2);
        Check.type(x, "ab");
        Check.same("undo", 5, x.undo());
        Check.same("the bound", 77, x.breaker(0, 0));
        Check.same("undo", 4, x.undo());
        expectLooks("the state before", before, looks(x));
        Check.same("the buffer stays", 2, x.clearBuffer());
    }

    static void promise17DropsTheOldest() {
        MarketSockets x = new MarketSockets();
        Check.refusesState("none saved", x, x::undo);
        for (int bound = 11; bound <= 18; bound++) {
            x.bound(1, bound);
            Check.same("saved", Math.min(6, bound - 10), x.count(11));
        }
        for (int left = 5; left >= 0; left--) {
            Check.same("undo", left, x.undo());
            Check.same("bound", 12 + left, x.breaker(1, 0));
        }
        Check.refusesState("none left", x, x::undo);
        Check.same("the oldest two are gone", 12, x.breaker(1, 0));
    }

    static void promise17CallsThatChangeNothingAreSavedToo() {
        MarketSockets x = new MarketSockets();
        x.bound(0, 200);
        x.set(0, 2);
        x.keep(0);
        x.goBack(0);
        Check.same("saved", 3, x.count(11));
        for (int left = 2; left >= 0; left--) {
            long before = x.breaker(0, 0);
            Check.same("undo", left, x.undo());
            Check.same("bound", before, x.breaker(0, 0));
        }
    }

    private static MarketSockets filled() {
        MarketSockets x = new MarketSockets();
        Check.open(x, "s150@0-23*4;s90@18-3*6;s240@5-9*9;s30@0-23*2");
        Check.open(x, "p0=0;p1=1;p2=4;p3=9");
        x.pass(31);
        x.set(1, 1);
        return x;
    }

    private static void change(MarketSockets x) {
        x.stall(33, 1, 2, 3);
        x.plug(4, 7);
        x.pull(0);
        x.shed(3);
        x.over(5);
        x.bound(2, 345);
        x.set(0, 5);
        x.set(1, 0);
        x.set(2, 50);
        x.pass(40);
    }

    /** All looks but the number of saved states. */
    private static long[] looks(MarketSockets x) {
        long[] looks = new long[400];
        int n = 0;
        for (int what = 0; what < 11; what++) {
            looks[n++] = x.count(what);
        }
        for (int setting = 0; setting < 3; setting++) {
            looks[n++] = x.setting(setting);
        }
        for (int stall = 0; stall < x.count(1); stall++) {
            for (int what = 0; what < 10; what++) {
                looks[n++] = x.stallOf(stall, what);
            }
        }
        for (int breaker = 0; breaker < 4; breaker++) {
            for (int what = 0; what < 7; what++) {
                looks[n++] = x.breaker(breaker, what);
            }
        }
        for (int socket = 0; socket < 12; socket++) {
            looks[n++] = x.socket(socket, 0);
            looks[n++] = x.socket(socket, 1);
        }
        looks[n] = Double.doubleToLongBits(x.servedShare());
        return looks;
    }

    private static void expectLooks(String what, long[] due, long[] got) {
        for (int k = 0; k < due.length; k++) {
            Check.same(what + ", look " + k, due[k], got[k]);
        }
    }
}
