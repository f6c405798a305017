/** Promises 6 to 10: a test of each sentence that names an edge. */
final class EdgeBreakerTest {
    @Says("Changes the bound of a breaker.")
    static void promise6ChangesOneBound() {
        MarketSockets x = Edge.tripped();
        x.bound(3, 600);
        Check.same("bound", 600, x.breaker(3, 0));
        Check.same("the others", 600, x.breaker(0, 0) + x.breaker(1, 0) + x.breaker(2, 0));
        Check.same("a tripped one stays so", 0, x.breaker(3, 1));
        MarketSockets y = Edge.on(0, 500);
        y.bound(0, 10);
        Check.same("it does not trip by itself", 1, y.breaker(0, 1));
        Check.same("no heat by itself", 0, y.breaker(0, 2));
    }

    @Says("Undoable.")
    static void promise6IsUndoable() {
        Edge.undoable(Edge::one, x -> x.bound(3, 999));
        Edge.undoable(Edge::busyWithRoom, x -> x.bound(0, 10));
        Edge.undoable(Edge::busyWithRoom, x -> x.bound(0, x.breaker(0, 0)));
    }

    @Says("`breaker`: 0 to 3")
    static void promise6BreakerIs0To3() {
        Edge.range(Edge.ARGUMENT, Edge::one, 0, 3, (x, breaker) -> {
            x.bound(breaker, 300);
            for (int other = 0; other < 4; other++) {
                Check.same("bound", other == breaker ? 300 : 200, x.breaker(other, 0));
            }
        });
    }

    @Says("`bound`: 10 to 999")
    static void promise6BoundIs10To999() {
        Edge.range(Edge.ARGUMENT, Edge::one, 10, 999, (x, bound) -> {
            x.bound(2, bound);
            Check.same("bound", bound, x.breaker(2, 0));
        });
    }

    @Says("Returns the previous one.")
    static void promise6ReturnsThePreviousOne() {
        MarketSockets x = new MarketSockets();
        Check.same("the first one", 200, x.bound(1, 10));
        Check.same("the least one", 10, x.bound(1, 999));
        Check.same("the greatest one", 999, x.bound(1, 999));
        Check.same("the same again", 999, x.bound(1, 200));
    }

    @Says("Throws `IllegalArgumentException` if an argument is out of range")
    static void promise6RefusesAnyArgumentOutOfRange() {
        int[][] wrong = {{-1, 200}, {4, 200}, {0, 9}, {0, 1000}, {3, 9}, {3, 1000}, {-1, 9}, {4, 1000}, {0, 0},
            {0, -200}};
        for (int[] a : wrong) {
            Edge.refuses("bound " + a[0] + " " + a[1], Edge.ARGUMENT, Edge::busy, x -> x.bound(a[0], a[1]));
        }
    }

    // ---- promise 7

    @Says("Puts a breaker that has tripped on again; its heat is 0 then.")
    static void promise7PutsOnWithoutHeat() {
        for (int breaker = 0; breaker < 4; breaker++) {
            MarketSockets x = Edge.tripped();
            Check.isTrue("it is hot", x.breaker(breaker, 2) > 9);
            x.reset(breaker);
            for (int other = 0; other < 4; other++) {
                Check.same("on", other == breaker ? 1 : 0, x.breaker(other, 1));
                Check.same("heat", other == breaker ? 0 : 31, x.breaker(other, 2));
                Check.same("trips so far", 1, x.breaker(other, 5));
            }
        }
        MarketSockets cool = Edge.tripped();
        cool.pass(48);
        Check.same("a tripped one that is cold", 0, cool.breaker(0, 2));
        cool.reset(0);
        Check.same("is on then", 1, cool.breaker(0, 1));
        Check.same("and cold", 0, cool.breaker(0, 2));
    }

    @Says("Undoable.")
    static void promise7IsUndoable() {
        Edge.undoable(Edge::tripped, x -> x.reset(3));
        Edge.undoable(Edge::busyWithRoom, x -> x.reset(1));
    }

    @Says("`breaker`: 0 to 3")
    static void promise7BreakerIs0To3() {
        Edge.range(Edge.ARGUMENT, Edge::tripped, 0, 3, (x, breaker) -> {
            x.reset(breaker);
            Check.same("on", 1, x.breaker(breaker, 1));
            Check.same("breakers that are on", 1, x.count(4));
        });
    }

    @Says("Returns how many stalls draw from it then, in the hour of now.")
    static void promise7ReturnsTheStallsThatDraw() {
        MarketSockets x = new MarketSockets();
        x.stall(300, 0, 0, 1);
        x.stall(10, 1, 1, 1);
        x.stall(10, 23, 1, 1);
        x.plug(0, 0);
        x.plug(1, 1);
        x.plug(2, 2);
        x.pass(1);
        Check.same("the two of this hour", 2, x.reset(0));
        x.undo();
        x.shed(1);
        Check.same("the one that is not shed", 1, x.reset(0));
        x.undo();
        x.over(2);
        Check.same("none that is on the reserve", 0, x.reset(0));
        x.undo();
        x.pass(1);
        Check.same("none in the next hour", 0, x.reset(0));
    }

    @Says("Throws `IllegalArgumentException` if breaker is out of range")
    static void promise7RefusesABreakerOutOfRange() {
        Edge.refuses("breaker -1", Edge.ARGUMENT, Edge::tripped, x -> x.reset(-1));
        Edge.refuses("breaker 4", Edge.ARGUMENT, Edge::tripped, x -> x.reset(4));
        Edge.refuses("breaker 4, with all on", Edge.ARGUMENT, Edge::one, x -> x.reset(4));
    }

    @Says("Throws `IllegalStateException` if it has not tripped")
    static void promise7RefusesOneThatIsOn() {
        for (int breaker = 0; breaker < 4; breaker++) {
            int which = breaker;
            Edge.refuses("at first", Edge.STATE, MarketSockets::new, x -> x.reset(which));
            Edge.refuses("put on", Edge.STATE, () -> {
                MarketSockets x = Edge.tripped();
                x.reset(which);
                return x;
            }, x -> x.reset(which));
        }
        Edge.refuses("hot, but on", Edge.STATE, () -> {
            MarketSockets x = Edge.on(0, 289);
            x.pass(1);
            Check.same("heat", 9, x.breaker(0, 2));
            return x;
        }, x -> x.reset(0));
    }

    // ---- promise 8

    @Says("Switches a socket over to the reserve, or back, if it is switched over.")
    static void promise8SwitchesThereAndBack() {
        MarketSockets x = Edge.on(1, 40);
        for (int k = 0; k < 3; k++) {
            x.over(3);
            Check.same("the reserve carries it", 40, x.breaker(3, 3));
            Check.same("its breaker carries nothing", 0, x.breaker(1, 3));
            Check.same("its neighbour stays", 1, x.socket(4, 0));
            x.over(3);
            Check.same("the reserve carries nothing", 0, x.breaker(3, 3));
            Check.same("its breaker carries it", 40, x.breaker(1, 3));
        }
        MarketSockets y = Edge.tripped();
        y.over(0);
        Check.same("also over to a reserve that has tripped", 3, y.socket(0, 0));
        y.reset(3);
        Check.same("it draws there", 0, y.stallOf(0, 8));
    }

    @Says("Undoable.")
    static void promise8IsUndoable() {
        Edge.undoable(Edge::one, x -> x.over(8));
        Edge.undoable(Edge::busyWithRoom, x -> x.over(0));
        Edge.undoable(Edge::busyWithRoom, x -> x.over(7));
    }

    @Says("`socket`: 0 to 8")
    static void promise8SocketIs0To8() {
        Edge.range(Edge.ARGUMENT, Edge::one, 0, 8, (x, socket) -> {
            x.over(socket);
            for (int other = 0; other < 12; other++) {
                Check.same("breaker of " + other, other == socket ? 3 : other / 3, x.socket(other, 0));
            }
        });
    }

    @Says("Returns the breaker that it is on then.")
    static void promise8ReturnsTheBreaker() {
        MarketSockets x = new MarketSockets();
        for (int socket = 0; socket < 9; socket++) {
            Check.same("over", 3, x.over(socket));
        }
        for (int socket = 0; socket < 9; socket++) {
            Check.same("back", socket / 3, x.over(socket));
        }
    }

    @Says("Throws `IllegalArgumentException` if socket is out of range")
    static void promise8RefusesTheReservesOwnSockets() {
        for (int socket : new int[] {-1, 9, 10, 11, 12}) {
            Edge.refuses("socket " + socket, Edge.ARGUMENT, Edge::busy, x -> x.over(socket));
        }
    }

    // ---- promise 9

    @Says("Lets hours go by.")
    static void promise9LetsJustTheseHoursGoBy() {
        for (int hours = 1; hours <= 48; hours++) {
            MarketSockets x = Edge.on(2, 7);
            MarketSockets y = Edge.on(2, 7);
            x.pass(hours);
            for (int k = 0; k < hours; k++) {
                y.pass(1);
            }
            Check.same("meter", 7 * hours, x.stallOf(0, 6));
            Check.same("meter hour by hour", 7 * hours, y.stallOf(0, 6));
        }
    }

    @Says("Undoable, as one call.")
    static void promise9IsUndoableAsOneCall() {
        Edge.undoable(Edge::one, x -> x.pass(1));
        Edge.undoable(Edge::one, x -> x.pass(48));
        Edge.undoable(Edge::busyWithRoom, x -> x.pass(48));
    }

    @Says("`hours`: 1 to 48")
    static void promise9HoursAre1To48() {
        Edge.range(Edge.ARGUMENT, Edge::busy, 1, 48, (x, hours) -> {
            int before = x.count(0);
            x.pass(hours);
            Check.same("hour", before + hours, x.count(0));
        });
    }

    @Says("Returns how often a breaker trips in them.")
    static void promise9ReturnsTheTrips() {
        MarketSockets none = Edge.on(0, 200);
        Check.same("none", 0, none.pass(48));
        MarketSockets all = new MarketSockets();
        for (int stall = 0; stall < 4; stall++) {
            all.stall(500, 0, 23, 1);
            all.plug(stall, 3 * stall);
        }
        Check.same("all four in an hour", 4, all.pass(1));
        Check.same("none of those before", 0, all.pass(48));
        all.reset(2);
        Check.same("one that was put on", 1, all.pass(48));
        MarketSockets late = Edge.on(0, 201);
        Check.same("not yet", 0, late.pass(9));
        Check.same("in the last one", 1, late.pass(1));
    }

    @Says("Throws `IllegalArgumentException` if hours is out of range")
    static void promise9RefusesHoursOutOfRange() {
        for (int hours : new int[] {0, -1, 49, 9999, 10000}) {
            Edge.refuses(hours + " hours", Edge.ARGUMENT, Edge::busy, x -> x.pass(hours));
            Edge.refuses(hours + " hours at 9999", Edge.ARGUMENT, () -> Edge.atHour(9999), x -> x.pass(hours));
        }
    }

    @Says("Throws `IllegalStateException` if the hour would be above 9999")
    static void promise9RefusesAnHourAbove9999() {
        MarketSockets x = Edge.atHour(9951);
        Check.same("48 up to 9999", 0, x.pass(48));
        Check.same("hour", 9999, x.count(0));
        Edge.refuses("48 up to 10000", Edge.STATE, () -> Edge.atHour(9952), y -> y.pass(48));
        MarketSockets last = Edge.atHour(9998);
        last.pass(1);
        Check.same("hour", 9999, last.count(0));
        Edge.refuses("2 up to 10000", Edge.STATE, () -> Edge.atHour(9998), y -> y.pass(2));
        Edge.refuses("1 up to 10000", Edge.STATE, () -> Edge.atHour(9999), y -> y.pass(1));
        Edge.refuses("48 from 9999 on", Edge.STATE, () -> Edge.atHour(9999), y -> y.pass(48));
    }

    // ---- promise 10

    @Says("Changes a setting.")
    static void promise10ChangesOneSetting() {
        int[] first = {2, 0, 3};
        int[] next = {9, 1, 99};
        for (int setting = 0; setting < 3; setting++) {
            MarketSockets x = new MarketSockets();
            x.set(setting, next[setting]);
            for (int other = 0; other < 3; other++) {
                Check.same("setting", other == setting ? next[other] : first[other], x.setting(other));
            }
        }
    }

    @Says("Undoable.")
    static void promise10IsUndoable() {
        Edge.undoable(Edge::one, x -> x.set(0, 9));
        Edge.undoable(Edge::busyWithRoom, x -> x.set(1, 1));
        Edge.undoable(Edge::busyWithRoom, x -> x.set(2, 99));
        Edge.undoable(Edge::busyWithRoom, x -> x.set(2, x.setting(2)));
    }

    @Says("`setting`: 0 to 2")
    static void promise10SettingIs0To2() {
        Edge.range(Edge.INDEX, Edge::busy, 0, 2, (x, setting) -> {
            x.set(setting, 1);
            Check.same("setting", 1, x.setting(setting));
        });
    }

    @Says("`value`: the new value")
    static void promise10ValuesHaveTheirRanges() {
        int[][] ranges = {{1, 9}, {0, 1}, {1, 99}};
        for (int setting = 0; setting < 3; setting++) {
            int which = setting;
            Edge.range(Edge.ARGUMENT, Edge::busy, ranges[setting][0], ranges[setting][1], (x, value) -> {
                x.set(which, value);
                Check.same("setting", value, x.setting(which));
            });
        }
    }

    @Says("Returns the previous value.")
    static void promise10ReturnsThePreviousValue() {
        MarketSockets x = new MarketSockets();
        int[][] values = {{2, 1, 9, 9}, {0, 1, 0, 0}, {3, 1, 99, 99}};
        for (int setting = 0; setting < 3; setting++) {
            for (int k = 0; k + 1 < 4; k++) {
                Check.same("previous", values[setting][k], x.set(setting, values[setting][k + 1]));
            }
        }
    }

    @Says("Throws `IndexOutOfBoundsException` if there is no such setting")
    static void promise10RefusesWithoutTheSetting() {
        for (int setting : new int[] {-1, 3, 4}) {
            Edge.refuses("setting " + setting, Edge.INDEX, Edge::busy, x -> x.set(setting, 1));
            Edge.refuses("setting " + setting + ", -1", Edge.INDEX, Edge::busy, x -> x.set(setting, -1));
            Edge.refuses("setting " + setting + ", 100", Edge.INDEX, Edge::busy, x -> x.set(setting, 100));
        }
    }

    @Says("Throws `IllegalArgumentException` if value is out of range")
    static void promise10RefusesAValueOutOfRange() {
        int[][] wrong = {{0, 0}, {0, 10}, {1, -1}, {1, 2}, {2, 0}, {2, 100}, {2, -3}};
        for (int[] a : wrong) {
            Edge.refuses("set " + a[0] + " " + a[1], Edge.ARGUMENT, Edge::busy, x -> x.set(a[0], a[1]));
        }
    }
}
