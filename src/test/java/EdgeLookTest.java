/** Promises 18 to 22: a test of each sentence that names an edge. */
final class EdgeLookTest {
    private static final String STALL_WHAT = "`what`: 0: its load; 1: the hour from which on, 2: up to which it"
            + " wants it; 3: its rank; 4: its socket, NONE without one; 5: 1 if it is shed, otherwise 0; 6: its"
            + " meter; 7: its dark hours so far; 8: its reason; 9: its fee: its meter times setting 2, divided by 10";
    private static final String BREAKER_WHAT = "`what`: 0: its bound; 1: 1 if it is on, 0 if it has tripped; 2: its"
            + " heat; 3: what it carries in the hour of now; 4: what it would carry if it was on, and all stalls at"
            + " its sockets that are not shed wanted their loads; 5: how often it tripped so far; 6: what went"
            + " through it so far";
    private static final String COUNT_WHAT = "`what`: 0: the hour; 1: stalls; 2: those at sockets; 3: those that"
            + " draw in the hour of now; 4: breakers that are on; 5: all meters together; 6: the same, told by what"
            + " went through breakers; 7: trips so far; 8: dark hours of stalls so far; 9: all fees together (each"
            + " one rounded by itself); 10: stalls that were shed by rank so far; 11: saved states";

    private static final int HOURS = 9999;

    @Says("Ahead of the calls `stallOf`, `breaker`, `socket`, `count`, `setting` the interface says: ---- looks;"
            + " nothing is changed.")
    static void termsLooksChangeNothing() {
        for (int k = 0; k < 12; k++) {
            int which = k;
            Edge.looks(Edge::busy, x -> {
                x.stallOf(which % 4, which % 10);
                x.breaker(which % 4, which % 7);
                x.socket(which, which % 2);
                x.count(which);
                x.setting(which % 3);
            });
        }
    }

    // ---- promise 18

    @Says("`stall`: its number")
    static void promise18TakesAnyStall() {
        Edge.range(Edge.INDEX, Edge::full, 0, 9, (x, stall) -> Check.same("load", 10 + stall, x.stallOf(stall, 0)));
    }

    @Says({STALL_WHAT, "Returns a property of a stall.", "Returns the property."})
    static void promise18WhatIs0To9() {
        Edge.answers(Edge.ARGUMENT, () -> {
            MarketSockets x = new MarketSockets();
            x.stall(17, 23, 0, 9);
            x.pass(40);
            x.plug(0, 11);
            x.shed(0);
            x.pass(12);
            x.shed(0);
            x.pass(35);
            return x;
        }, (x, what) -> x.stallOf(0, what), 17, 23, 0, 9, 11, 0, 34, 5, 1, 10);
    }

    @Says(STALL_WHAT)
    static void promise18PropertiesAtTheirEdges() {
        MarketSockets x = new MarketSockets();
        x.stall(500, 0, 23, 9);
        x.stall(1, 23, 23, 1);
        Check.same("socket without one", MarketSockets.NONE, x.stallOf(0, 4));
        Check.same("not shed", 0, x.stallOf(0, 5));
        x.shed(0);
        Check.same("shed", 1, x.stallOf(0, 5));
        x.shed(0);
        x.plug(0, 0);
        Check.same("the lowest socket", 0, x.stallOf(0, 4));
        x.bound(0, 999);
        x.set(2, 99);
        Edge.passTo(x, HOURS);
        Check.same("the greatest meter", 500 * HOURS, x.stallOf(0, 6));
        Check.same("the greatest fee", 50 * HOURS * 99, x.stallOf(0, 9));
        Check.same("dark hours of one that draws", 0, x.stallOf(0, 7));
        Check.same("dark hours of one without a socket", 416, x.stallOf(1, 7));
        Check.same("no meter", 0, x.stallOf(1, 6));
        Check.same("no fee", 0, x.stallOf(1, 9));
    }

    @Says("Throws `IndexOutOfBoundsException` if there is no such stall")
    static void promise18RefusesWithoutTheStall() {
        Edge.refuses("without stalls", Edge.INDEX, MarketSockets::new, x -> x.stallOf(0, 0));
        for (int stall : new int[] {-1, 4, 9, 10}) {
            Edge.refuses("stall " + stall, Edge.INDEX, Edge::busy, x -> x.stallOf(stall, 0));
            Edge.refuses("stall " + stall + ", wrong what", Edge.INDEX, Edge::busy, x -> x.stallOf(stall, 10));
        }
        Edge.refuses("a stall that undo took back", Edge.INDEX, () -> {
            MarketSockets x = Edge.one();
            x.stall(1, 0, 0, 1);
            x.undo();
            return x;
        }, x -> x.stallOf(1, 0));
    }

    @Says("Throws `IllegalArgumentException` if what is not 0 to 9")
    static void promise18RefusesAnotherWhat() {
        for (int what : new int[] {-1, 10, 11}) {
            Edge.refuses("what " + what, Edge.ARGUMENT, Edge::busy, x -> x.stallOf(3, what));
        }
    }

    // ---- promise 19

    @Says("`breaker`: 0 to 3")
    static void promise19BreakerIs0To3() {
        Edge.answers(Edge.ARGUMENT, () -> {
            MarketSockets x = new MarketSockets();
            for (int breaker = 0; breaker < 4; breaker++) {
                x.bound(breaker, 300 + breaker);
            }
            return x;
        }, (x, breaker) -> x.breaker(breaker, 0), 300, 301, 302, 303);
    }

    @Says({BREAKER_WHAT, "Returns a property of a breaker.", "Returns the property."})
    static void promise19WhatIs0To6() {
        Edge.answers(Edge.ARGUMENT, () -> {
            MarketSockets x = Edge.on(2, 155);
            x.stall(7, 9, 9, 1);
            x.plug(1, 8);
            x.bound(2, 10);
            x.pass(1);
            x.reset(2);
            x.bound(2, 999);
            x.pass(1);
            x.bound(2, 150);
            x.pass(1);
            return x;
        }, (x, what) -> x.breaker(2, what), 150, 1, 1, 155, 162, 1, 465);
    }

    @Says(BREAKER_WHAT)
    static void promise19PropertiesAtTheirEdges() {
        MarketSockets x = Edge.tripped();
        x.stall(20, 23, 23, 1);
        x.plug(4, 1);
        Check.same("tripped", 0, x.breaker(0, 1));
        Check.same("a tripped one carries nothing", 0, x.breaker(0, 3));
        Check.same("it would carry what is not wanted now, too", 520, x.breaker(0, 4));
        x.shed(0);
        Check.same("but nothing for a shed one", 20, x.breaker(0, 4));
        x.over(1);
        Check.same("nothing at a socket that is switched over", 0, x.breaker(0, 4));
        Check.same("that is the reserve's", 520, x.breaker(3, 4));
        x.pull(3);
        Check.same("nothing for one that is pulled out", 20, x.breaker(3, 4));
        MarketSockets y = Edge.on(0, 500, 499);
        y.bound(0, 999);
        Edge.passTo(y, HOURS);
        Check.same("the most that goes through", 999 * HOURS, y.breaker(0, 6));
        Check.same("no trips", 0, y.breaker(0, 5));
    }

    @Says("Throws `IllegalArgumentException` if an argument is out of range")
    static void promise19RefusesAnyArgumentOutOfRange() {
        int[][] wrong = {{-1, 0}, {4, 0}, {0, -1}, {0, 7}, {3, 7}, {-1, -1}, {4, 7}};
        for (int[] a : wrong) {
            Edge.refuses("breaker " + a[0] + " " + a[1], Edge.ARGUMENT, Edge::busy, x -> x.breaker(a[0], a[1]));
        }
    }

    // ---- promise 20

    @Says("`socket`: 0 to 11")
    static void promise20SocketIs0To11() {
        Edge.range(Edge.ARGUMENT, EdgeStallTest::allPlugged, 0, 11, (x, socket) -> {
            Check.same("breaker", socket / 3, x.socket(socket, 0));
            Check.same("stall", socket < 10 ? socket : -1, x.socket(socket, 1));
        });
    }

    @Says({"`what`: 0: the breaker that it is on; 1: the stall that is at it, NONE without one",
        "Returns a property of a socket.", "Returns the property."})
    static void promise20WhatIs0Or1() {
        Edge.answers(Edge.ARGUMENT, () -> {
            MarketSockets x = Edge.on(2, 5);
            x.over(6);
            return x;
        }, (x, what) -> x.socket(6, what), 3, 0);
        MarketSockets x = Edge.on(2, 5);
        Check.same("without one", MarketSockets.NONE, x.socket(7, 1));
        x.pull(0);
        Check.same("without one any more", MarketSockets.NONE, x.socket(6, 1));
    }

    @Says("Throws `IllegalArgumentException` if an argument is out of range")
    static void promise20RefusesAnyArgumentOutOfRange() {
        int[][] wrong = {{-1, 0}, {12, 0}, {-1, 1}, {12, 1}, {0, -1}, {0, 2}, {11, 2}, {-1, -1}, {12, 2}};
        for (int[] a : wrong) {
            Edge.refuses("socket " + a[0] + " " + a[1], Edge.ARGUMENT, Edge::busy, x -> x.socket(a[0], a[1]));
        }
    }

    // ---- promise 21

    @Says({COUNT_WHAT, "Returns a number.", "Returns the number."})
    static void promise21WhatIs0To11() {
        Edge.answers(Edge.ARGUMENT, () -> {
            MarketSockets x = new MarketSockets();
            Check.open(x, "s500@0-23*1;s11@0-0*1;s7@1-23*1;s5@0-23*1;s250@3-3*1");
            Check.open(x, "p0=0;p1=1;p2=3;p4=4;h1");
            x.set(1, 1);
            Check.open(x, "h2;h1");
            x.over(0);
            return x;
        }, MarketSockets::count, 4, 5, 4, 2, 3, 511 + 7 * 3, 511 + 7 * 3, 1, 3 + 4 + 1, 153 + 6, 1, 5);
    }

    @Says(COUNT_WHAT)
    static void promise21FeesAreRoundedByThemselves() {
        MarketSockets x = Edge.on(0, 3, 3, 3);
        x.pass(1);
        Check.same("three times 9 tenths", 0, x.count(9));
        x.pass(1);
        Check.same("three times 18 tenths", 3, x.count(9));
    }

    @Says(COUNT_WHAT)
    static void promise21NumbersAtTheirEdges() {
        MarketSockets none = new MarketSockets();
        for (int what = 0; what < 12; what++) {
            Check.same("number " + what + " at first", what == 4 ? 4 : 0, none.count(what));
        }
        Check.same("all breakers tripped", 0, Edge.tripped().count(4));
        Check.same("trips of all", 4, Edge.tripped().count(7));
        MarketSockets all = EdgeStallTest.allPlugged();
        Check.same("stalls", 10, all.count(1));
        Check.same("at sockets", 10, all.count(2));
        Check.same("that draw", 10, all.count(3));
        Check.same("saved states", 6, all.count(11));
        MarketSockets most = new MarketSockets();
        most.set(2, 99);
        for (int breaker = 0; breaker < 4; breaker++) {
            most.bound(breaker, 999);
            Check.open(most, "s500@0-23*1;s499@0-23*1");
            most.plug(2 * breaker, 3 * breaker);
            most.plug(2 * breaker + 1, 3 * breaker + 1);
        }
        Edge.passTo(most, HOURS);
        Check.same("the greatest hour", HOURS, most.count(0));
        Check.same("the greatest meters", 4 * 999 * HOURS, most.count(5));
        Check.same("told by what went through breakers", 4 * 999 * HOURS, most.count(6));
        Check.same("the greatest fees", 4 * (500 * 99 * HOURS / 10 + 499 * 99 * HOURS / 10), most.count(9));
    }

    @Says("Throws `IllegalArgumentException` if what is not 0 to 11")
    static void promise21RefusesAnotherWhat() {
        for (int what : new int[] {-1, 12, 13}) {
            Edge.refuses("what " + what, Edge.ARGUMENT, Edge::busy, x -> x.count(what));
        }
    }

    // ---- promise 22

    @Says("`setting`: 0 to 2")
    static void promise22SettingIs0To2() {
        Edge.answers(Edge.INDEX, MarketSockets::new, MarketSockets::setting, 2, 0, 3);
    }

    @Says({"Returns its value.", "Returns a setting."})
    static void promise22ReturnsItsValue() {
        int[][] values = {{1, 9}, {0, 1}, {1, 99}};
        for (int setting = 0; setting < 3; setting++) {
            MarketSockets x = new MarketSockets();
            for (int value : values[setting]) {
                x.set(setting, value);
                Check.same("value", value, x.setting(setting));
            }
        }
    }

    @Says("Throws `IndexOutOfBoundsException` if there is no such setting")
    static void promise22RefusesWithoutTheSetting() {
        for (int setting : new int[] {-1, 3, 4}) {
            Edge.refuses("setting " + setting, Edge.INDEX, Edge::busy, x -> x.setting(setting));
        }
    }
}
