import java.util.ArrayList;
import java.util.List;
import java.util.function.Supplier;

/** Promises 23 to 28: a test of each sentence that names an edge. */
final class EdgeWouldBeTest {
    private static final String TRIPS_IN = "Returns in how many hours, 0 to 96, it has tripped, if nothing else is"
            + " done; NONE if it has not within these.";

    private static final String NOTHING_IS_CHANGED = "Ahead of the calls `ifPlugged`, `tripsIn`, `bestSocket`,"
            + " `leastBound`, `servedShare`, `digest` the interface says: ---- what would be; nothing is changed, and"
            + " the limit of hours does not matter.";

    @Says(NOTHING_IS_CHANGED)
    static void termsWhatWouldBeChangesNothing() {
        for (int k = 0; k < 4; k++) {
            int which = k;
            Edge.looks(Edge::busy, x -> x.ifPlugged(which, 11, 48, which % 3));
            Edge.looks(Edge::busy, x -> x.ifPlugged(which, 0, 48, 0));
            Edge.looks(Edge::busy, x -> x.tripsIn(which));
            Edge.looks(Edge::busy, x -> x.bestSocket(which));
            Edge.looks(Edge::busy, x -> x.leastBound(which));
        }
        Edge.looks(Edge::busy, MarketSockets::servedShare);
        Edge.looks(Edge::busy, MarketSockets::digest);
    }

    @Says(NOTHING_IS_CHANGED)
    static void termsWhatWouldBeGoesBeyondTheLastHour() {
        MarketSockets x = new MarketSockets();
        x.stall(201, 0, 23, 1);
        Edge.passTo(x, 9999);
        Check.same("no hour more", 9999, x.count(0));
        Check.same("trips", 1, x.ifPlugged(0, 0, 48, 0));
        Check.same("dark hours", 38, x.ifPlugged(0, 0, 48, 1));
        Check.same("meter", 2010, x.ifPlugged(0, 0, 48, 2));
        Check.same("the lowest of the best", 0, x.bestSocket(0));
        x.plug(0, 0);
        Check.same("trips in", 10, x.tripsIn(0));
        Check.same("the least bound", 201, x.leastBound(0));
        Check.same("the best with a trip", 0, x.bestSocket(0));
        x.bound(1, 201);
        Check.same("the best without", 3, x.bestSocket(0));
        x.digest();
        Check.same("still the last hour", 9999, x.count(0));
    }

    // ---- promise 23

    @Says("`stall`: its number")
    static void promise23TakesAnyStall() {
        Edge.range(Edge.INDEX, EdgeStallTest::allPlugged, 0, 9, (x, stall) -> {
            Check.same("meter", 10 + stall, x.ifPlugged(stall, 11, 1, 2));
            Check.same("dark hours of all", 0, x.ifPlugged(stall, 11, 1, 1));
        });
    }

    @Says("`socket`: 0 to 11")
    static void promise23SocketIs0To11() {
        Edge.range(Edge.ARGUMENT, () -> allOn(1), 0, 11, (x, socket) -> {
            int due = socket == 0 || socket % 3 != 0 ? 500 : -1;
            Check.same("meter up to the trip at " + socket, due, x.ifPlugged(0, socket, 48, 2));
        });
    }

    @Says("`hours`: 1 to 48")
    static void promise23HoursAre1To48() {
        Edge.range(Edge.ARGUMENT, () -> allOn(500), 1, 48, (x, hours) -> {
            Check.same("meter", 500 * hours, x.ifPlugged(0, 1, hours, 2));
            Check.same("dark hours of the others", 3 * (hours - 1), x.ifPlugged(0, 1, hours, 1));
        });
    }

    /** The market of four stalls of 500, with the breakers on again; the breaker 0 has this bound at least. */
    private static MarketSockets allOn(int bound) {
        MarketSockets x = Edge.tripped();
        for (int breaker = 0; breaker < 4; breaker++) {
            x.reset(breaker);
        }
        x.bound(0, Math.max(10, bound));
        return x;
    }

    @Says({"`what`: 0: trips in them; 1: dark hours of all stalls in them; 2: what its meter runs on in them",
        "Tells what hours would bring, if a stall was at a socket."})
    static void promise23WhatIs0To2() {
        Edge.answers(Edge.ARGUMENT, () -> {
            MarketSockets x = Edge.on(1, 150);
            x.stall(240, 0, 23, 1);
            x.stall(5, 7, 7, 1);
            x.plug(1, 6);
            x.pass(9);
            return x;
        }, (x, what) -> x.ifPlugged(1, 4, 48, what), 1, 47 + 47 + 2, 240);
    }

    @Says("Tells what hours would bring, if a stall was at a socket.")
    static void promise23ShedsByRankAsHoursDo() {
        MarketSockets x = new MarketSockets();
        Check.open(x, "s150@0-23*5;s140@0-23*4;s130@0-23*6;p0=0");
        x.set(1, 1);
        Check.same("the lesser rank stays", 140 * 48, x.ifPlugged(1, 1, 48, 2));
        Check.same("the greater rank is shed", 0, x.ifPlugged(2, 1, 48, 2));
        Check.same("dark hours of both others", 2 * 48, x.ifPlugged(1, 1, 48, 1));
        Check.same("trips", 0, x.ifPlugged(2, 1, 48, 0));
        Check.same("none is shed by that", 0, x.count(10));
    }

    @Says("Returns the number; NONE if another stall is at this socket.")
    static void promise23IsNoneAtAnothersSocket() {
        MarketSockets x = Edge.on(3, 40, 50);
        for (int what = 0; what < 3; what++) {
            Check.same("another's", MarketSockets.NONE, x.ifPlugged(0, 10, 1, what));
            Check.same("another's", MarketSockets.NONE, x.ifPlugged(1, 9, 48, what));
        }
        Check.same("its own", 40, x.ifPlugged(0, 9, 1, 2));
        Check.same("its own", 50, x.ifPlugged(1, 10, 1, 2));
        Check.same("a free one", 40, x.ifPlugged(0, 11, 1, 2));
        x.shed(1);
        Check.same("that of one that is shed", MarketSockets.NONE, x.ifPlugged(0, 10, 1, 2));
        x.pull(1);
        Check.same("one that was left", 40, x.ifPlugged(0, 10, 1, 2));
    }

    @Says("Throws `IndexOutOfBoundsException` if there is no such stall")
    static void promise23RefusesWithoutTheStall() {
        Edge.refuses("without stalls", Edge.INDEX, MarketSockets::new, x -> x.ifPlugged(0, 0, 1, 0));
        for (int stall : new int[] {-1, 4, 9, 10}) {
            Edge.refuses("stall " + stall, Edge.INDEX, Edge::busy, x -> x.ifPlugged(stall, 11, 1, 0));
            Edge.refuses("stall " + stall + ", all wrong", Edge.INDEX, Edge::busy, x -> x.ifPlugged(stall, 12, 0, 3));
        }
    }

    @Says("Throws `IllegalArgumentException` if another argument is out of range")
    static void promise23RefusesAnotherArgumentOutOfRange() {
        int[][] wrong = {{-1, 1, 0}, {12, 1, 0}, {11, 0, 0}, {11, -1, 0}, {11, 49, 0}, {11, 1, -1}, {11, 1, 3},
            {12, 49, 3}, {1, 0, 0}, {1, 49, 0}, {1, 1, 3}, {1, 1, -1}};
        for (int[] a : wrong) {
            Edge.refuses("ifPlugged 0 " + a[0] + " " + a[1] + " " + a[2], Edge.ARGUMENT, Edge::busy,
                    x -> x.ifPlugged(0, a[0], a[1], a[2]));
        }
    }

    // ---- promise 24

    @Says("`breaker`: 0 to 3")
    static void promise24BreakerIs0To3() {
        Edge.answers(Edge.ARGUMENT, () -> {
            MarketSockets x = new MarketSockets();
            Check.open(x, "s201@0-23*1;s211@0-23*1;s221@0-23*1;s231@0-23*1");
            Check.open(x, "p0=0;p1=3;p2=6;p3=9");
            return x;
        }, MarketSockets::tripsIn, 10, 5, 4, 3);
    }

    @Says({TRIPS_IN, "Tells when a breaker trips."})
    static void promise24IsWithin96Hours() {
        Check.same("it has tripped", 0, Edge.tripped().tripsIn(0));
        Check.same("in the first hour", 1, Edge.on(0, 290).tripsIn(0));
        Check.same("in the second hour", 2, Edge.on(0, 289).tripsIn(0));
        Check.same("it does not", MarketSockets.NONE, Edge.on(0, 200).tripsIn(0));
        MarketSockets x = new MarketSockets();
        Edge.fillReserve(x, 1);
        x.set(0, 1);
        x.pass(1);
        Check.same("in the 97th hour", MarketSockets.NONE, x.tripsIn(3));
        x.pass(1);
        for (int hours = 96; hours >= 0; hours--) {
            Check.same("trips in", hours, x.tripsIn(3));
            x.pass(1);
        }
        Check.same("it has tripped, and stays so", 0, x.tripsIn(3));
    }

    @Says(TRIPS_IN)
    static void promise24TakesTheHeatOfNow() {
        MarketSockets x = Edge.on(0, 289);
        x.pass(1);
        x.bound(0, 288);
        Check.same("hot", 1, x.tripsIn(0));
        x.set(1, 1);
        Check.same("shed by rank in time", MarketSockets.NONE, x.tripsIn(0));
    }

    @Says("Throws `IllegalArgumentException` if breaker is out of range")
    static void promise24RefusesABreakerOutOfRange() {
        for (int breaker : new int[] {-1, 4, 5}) {
            Edge.refuses("breaker " + breaker, Edge.ARGUMENT, Edge::busy, x -> x.tripsIn(breaker));
        }
    }

    // ---- promise 25

    private static final String BEST = "Returns of the sockets at which no other stall is the one with which the"
            + " next 24 hours would bring the fewest dark hours of all stalls, of several the fewest trips, of"
            + " several the lowest socket; NONE if there is none.";

    @Says({"`stall`: its number", "Finds the best socket for a stall."})
    static void promise25TakesAnyStall() {
        Edge.range(Edge.INDEX, EdgeStallTest::allPlugged, 0, 9, (x, stall) -> Check.same("its own one", stall,
                x.bestSocket(stall)));
    }

    /** With at most 10 stalls, 3 sockets at least are free of others, so that the answer is never NONE. */
    @Says(BEST)
    static void promise25LeavesOutOthersSockets() {
        MarketSockets x = EdgeStallTest.allPlugged();
        x.plug(0, 11);
        Check.same("its own one is free to it", 0, x.bestSocket(0));
        x.plug(1, 0);
        Check.same("the lowest that is left", 1, x.bestSocket(0));
        x.bound(0, 10);
        Check.same("10 is free, too", 10, x.bestSocket(0));
    }

    @Says(BEST)
    static void promise25TakesTheLowestOfSeveral() {
        MarketSockets x = Edge.one();
        Check.same("all are alike", 0, x.bestSocket(0));
        x.plug(0, 11);
        Check.same("also if it is at another one", 0, x.bestSocket(0));
        x.stall(1, 0, 0, 1);
        x.plug(1, 0);
        Check.same("the lowest free one", 1, x.bestSocket(0));
        x.over(1);
        x.over(2);
        Check.same("it may be on the reserve", 1, x.bestSocket(0));
        x.bound(3, 10);
        Check.same("or on the next breaker", 3, x.bestSocket(0));
    }

    @Says(BEST)
    static void promise25CountsTheDarkHoursOfAll() {
        MarketSockets x = new MarketSockets();
        x.stall(150, 0, 23, 1);
        x.stall(150, 0, 23, 1);
        x.stall(150, 0, 23, 1);
        x.stall(199, 0, 0, 1);
        x.stall(199, 5, 6, 1);
        x.plug(0, 0);
        x.plug(1, 3);
        x.plug(2, 6);
        x.plug(3, 9);
        Check.same("where no one else is dark", 10, x.bestSocket(4));
        x.stall(199, 0, 0, 1);
        x.plug(5, 10);
        Check.same("where those that trip want nothing more", 11, x.bestSocket(4));
    }

    @Says(BEST)
    static void promise25CountsTripsBehindDarkHours() {
        MarketSockets x = new MarketSockets();
        x.stall(290, 23, 23, 1);
        x.bound(3, 290);
        Check.same("no dark hour anywhere, but a trip", 9, x.bestSocket(0));
        x.bound(3, 289);
        Check.same("a hot one without a trip", 9, x.bestSocket(0));
        x.bound(3, 200);
        Check.same("a trip anywhere", 0, x.bestSocket(0));
        x.stall(500, 0, 0, 1);
        x.plug(1, 0);
        x.pass(1);
        x.pull(1);
        Check.same("no trip at a tripped one", 0, x.ifPlugged(0, 0, 24, 0));
        Check.same("but a dark hour more", 1 + x.ifPlugged(0, 3, 24, 1), x.ifPlugged(0, 0, 24, 1));
        Check.same("a trip without a dark hour is better", 3, x.bestSocket(0));
    }

    @Says(BEST)
    static void promise25Takes24Hours() {
        MarketSockets x = new MarketSockets();
        x.stall(150, 0, 23, 1);
        x.stall(95, 23, 0, 1);
        x.plug(0, 0);
        Check.same("a trip in the 25th hour does not count", 1, x.bestSocket(1));
        x.pass(1);
        Check.same("one in the 24th does", 3, x.bestSocket(1));
    }

    @Says(BEST)
    static void promise25IsASocketEvenIfNoneIsBetter() {
        MarketSockets x = new MarketSockets();
        Check.open(x, "s150@0-23*1;s150@0-23*1;s150@0-23*1;s140@1-22*1");
        Check.open(x, "s500@0-0*1;p0=0;p1=3;p2=6;p3=9");
        Check.same("dark hours with the best", 22, x.ifPlugged(4, 10, 24, 1));
        Check.same("the best", 10, x.bestSocket(4));
        for (int breaker = 0; breaker < 4; breaker++) {
            x.bound(breaker, 999);
        }
        Check.same("all are alike with these bounds", 1, x.bestSocket(4));
    }

    @Says("Throws `IndexOutOfBoundsException` if there is no such stall")
    static void promise25RefusesWithoutTheStall() {
        Edge.refuses("without stalls", Edge.INDEX, MarketSockets::new, x -> x.bestSocket(0));
        for (int stall : new int[] {-1, 4, 9, 10}) {
            Edge.refuses("stall " + stall, Edge.INDEX, Edge::busy, x -> x.bestSocket(stall));
        }
    }

    // ---- promise 26

    private static final String LEAST = "Returns the least bound, 10 to 999, with which, put on with the heat 0, it"
            + " would not trip in the next 48 hours; NONE if there is none.";

    @Says("`breaker`: 0 to 3")
    static void promise26BreakerIs0To3() {
        Edge.answers(Edge.ARGUMENT, () -> {
            MarketSockets x = new MarketSockets();
            Check.open(x, "s321@0-23*1;s322@0-23*1;s323@0-23*1;s324@0-23*1");
            Check.open(x, "p0=0;p1=3;p2=6;p3=9");
            return x;
        }, MarketSockets::leastBound, 321, 322, 323, 324);
    }

    @Says({LEAST, "Finds the least bound with which a breaker does not trip."})
    static void promise26IsFrom10To999() {
        Check.same("nothing", 10, new MarketSockets().leastBound(0));
        int[] loads = {1, 9, 10, 11, 12, 255, 256, 499, 500};
        int[] bounds = {10, 10, 10, 11, 12, 255, 256, 499, 500};
        for (int k = 0; k < loads.length; k++) {
            Check.same("all day " + loads[k], bounds[k], Edge.on(0, loads[k]).leastBound(0));
        }
        Check.same("all day 998", 998, Edge.on(0, 500, 498).leastBound(0));
        Check.same("all day 999", 999, Edge.on(0, 500, 499).leastBound(0));
        Check.same("all day 1000", MarketSockets.NONE, Edge.on(0, 500, 500).leastBound(0));
        Check.same("all day 1500", MarketSockets.NONE, Edge.on(0, 500, 500, 500).leastBound(0));
    }

    @Says(LEAST)
    static void promise26AnHourADayMayCarryMore() {
        int[] loads = {10, 98, 99, 100, 101, 500};
        int[] bounds = {10, 10, 10, 11, 12, 411};
        for (int k = 0; k < loads.length; k++) {
            MarketSockets x = new MarketSockets();
            x.stall(loads[k], 7, 7, 1);
            x.plug(0, 0);
            Check.same("an hour a day " + loads[k], bounds[k], x.leastBound(0));
        }
        MarketSockets x = new MarketSockets();
        Check.open(x, "s500@7-7*1;s500@7-7*1;s89@7-7*1;p0=0;p1=1");
        Check.same("1000 in an hour a day", 911, x.leastBound(0));
        x.plug(2, 2);
        Check.same("1089 with 999", MarketSockets.NONE, x.leastBound(0));
        MarketSockets y = new MarketSockets();
        Check.open(y, "s500@7-7*1;s500@7-7*1;s88@7-7*1;p0=0;p1=1;p2=2");
        Check.same("1088 with 999", 999, y.leastBound(0));
    }

    @Says(LEAST)
    static void promise26PutsItOnWithoutHeat() {
        for (int bound = 199; bound <= 200; bound++) {
            MarketSockets x = new MarketSockets();
            Check.open(x, "s289@0-0*1;s289@1-1*1;p0=0;p1=1");
            x.bound(0, bound);
            x.pass(1);
            x.pull(0);
            Check.same("heat with " + bound, bound == 199 ? 10 : 9, x.breaker(0, 2));
            Check.same("on with " + bound, bound == 199 ? 0 : 1, x.breaker(0, 1));
            Check.same("least bound without the heat", 200, x.leastBound(0));
            x.bound(0, 999);
            Check.same("whatever its bound is", 200, x.leastBound(0));
            Check.same("its bound is not changed", 999, x.breaker(0, 0));
        }
    }

    /** A breaker that sheds stalls by rank never carries more than its bound, whatever that is. */
    @Says(LEAST)
    static void promise26WithStallsShedByRank() {
        MarketSockets x = Edge.on(0, 500, 500);
        x.set(1, 1);
        Check.same("the least of all bounds", 10, x.leastBound(0));
        Check.same("none is shed by that", 0, x.count(10));
        x.set(1, 0);
        Check.same("not shed", MarketSockets.NONE, x.leastBound(0));
    }

    /** Each day ends 4 hotter than it began; the pass moves the trip with 200 from the 49th to the 48th hour. */
    @Says(LEAST)
    static void promise26Takes48Hours() {
        MarketSockets x = new MarketSockets();
        Edge.fillReserve(x, 10);
        x.pass(22);
        Check.same("a trip in the 49th hour", 200, x.leastBound(3));
        x.pass(1);
        Check.same("a trip in the 48th hour", 201, x.leastBound(3));
    }

    @Says("Throws `IllegalArgumentException` if breaker is out of range")
    static void promise26RefusesABreakerOutOfRange() {
        for (int breaker : new int[] {-1, 4, 5}) {
            Edge.refuses("breaker " + breaker, Edge.ARGUMENT, Edge::busy, x -> x.leastBound(breaker));
        }
    }

    // ---- promise 27

    @Says({"Returns the hours so far in which stalls drew their loads, as a double, divided by those in which they"
            + " wanted them; 1.0 without these.",
        "Returns how much was served."})
    static void promise27Is1WithoutHours() {
        MarketSockets x = new MarketSockets();
        Check.sameDouble("without stalls", 1.0, x.servedShare());
        x.pass(48);
        Check.sameDouble("without stalls in any hour", 1.0, x.servedShare());
        x.stall(1, 1, 1, 1);
        Check.sameDouble("without hours of the stall", 1.0, x.servedShare());
        x.pass(1);
        Check.sameDouble("without hours in which it wants its load", 1.0, x.servedShare());
        x.pass(1);
        Check.sameDouble("one that is dark", 0.0, x.servedShare());
        x.plug(0, 0);
        x.pass(24);
        Check.sameDouble("one of two", 0.5, x.servedShare());
        x.pass(24);
        Check.sameDouble("two of three", 2.0 / 3.0, x.servedShare());
        Check.sameDouble("all", 1.0, servedWhole().servedShare());
    }

    private static MarketSockets servedWhole() {
        MarketSockets x = Edge.on(0, 1, 1);
        x.pass(48);
        return x;
    }

    // ---- promise 28

    private static final String VALUES = "The values are: count(0) to count(11); the settings 0 to 2; for each stall"
            + " its properties 0 to 9, ifPlugged at the socket 10 for 12 hours, with 0 to 2, and bestSocket; for each"
            + " breaker its properties 0 to 6, and tripsIn; for each socket its properties 0 and 1; leastBound of the"
            + " breaker 0; the bits of servedShare (as Double.doubleToLongBits); for each slot 1 if it has a"
            + " snapshot, otherwise 0; the length of the buffer and each of its character codes.";

    @Says({VALUES, "The hash starts at 3089.", "Computes a hash of the whole state.", "Returns the hash."})
    static void promise28OfAnEmptyMarket() {
        List<Long> values = new ArrayList<>();
        add(values, 0, 0, 0, 0, 4, 0, 0, 0, 0, 0, 0, 0, 2, 0, 3);
        for (int breaker = 0; breaker < 4; breaker++) {
            add(values, 200, 1, 0, 0, 0, 0, 0, -1);
        }
        for (int socket = 0; socket < 12; socket++) {
            add(values, socket / 3, -1);
        }
        add(values, 10, 0x3FF0000000000000L, 0, 0, 0);
        Check.same("digest", hashOf(values), new MarketSockets().digest());
    }

    @Says({VALUES,
        "For each value v of the following list, in order, the hash becomes 31 * hash + v, in long arithmetic with"
            + " overflow."})
    static void promise28OfStallsSlotsAndAFullBuffer() {
        MarketSockets x = new MarketSockets();
        Check.open(x, "s50@0-23*2;s30@1-1*9;s20@3-2*5;p0=0;p2=10;h3");
        x.keep(1);
        Check.type(x, "!~".repeat(30));
        List<Long> values = new ArrayList<>();
        add(values, 3, 3, 2, 2, 4, 210, 210, 0, 1, 63, 0, 1, 2, 0, 3);
        add(values, 50, 0, 23, 2, 0, 0, 150, 0, 0, 45, -1, -1, -1, 0);
        add(values, 30, 1, 1, 9, -1, 0, 0, 1, 1, 0, -1, -1, -1, 1);
        add(values, 20, 3, 2, 5, 10, 0, 60, 0, 0, 18, 0, 0, 240, 1);
        add(values, 200, 1, 0, 50, 50, 0, 150, -1);
        add(values, 200, 1, 0, 0, 0, 0, 0, -1);
        add(values, 200, 1, 0, 0, 0, 0, 0, -1);
        add(values, 200, 1, 0, 20, 20, 0, 60, -1);
        for (int socket = 0; socket < 12; socket++) {
            add(values, socket / 3, socket == 0 ? 0 : socket == 10 ? 2 : -1);
        }
        add(values, 50, Double.doubleToLongBits(6.0 / 7.0), 0, 1, 60);
        for (int k = 0; k < 30; k++) {
            add(values, 33, 126);
        }
        Check.same("digest", hashOf(values), x.digest());
    }

    @Says(VALUES)
    static void promise28WithAShareOf0() {
        MarketSockets x = new MarketSockets();
        Check.open(x, "s500@0-0*9;h1");
        List<Long> values = new ArrayList<>();
        add(values, 1, 1, 0, 0, 4, 0, 0, 0, 1, 0, 0, 1, 2, 0, 3);
        add(values, 500, 0, 0, 9, -1, 0, 0, 1, 1, 0, 0, 0, 0, 0);
        for (int breaker = 0; breaker < 4; breaker++) {
            add(values, 200, 1, 0, 0, 0, 0, 0, -1);
        }
        for (int socket = 0; socket < 12; socket++) {
            add(values, socket / 3, -1);
        }
        add(values, 10, 0, 0, 0, 0);
        Check.same("digest", hashOf(values), x.digest());
    }

    @Says(VALUES)
    static void promise28HasEachPartOfTheState() {
        long[] seen = new long[6];
        int n = 0;
        List<Supplier<MarketSockets>> markets = List.of(MarketSockets::new, () -> kept(0), () -> kept(1),
                () -> typed("h"), () -> typed("hh"), () -> typed("p"));
        for (Supplier<MarketSockets> made : markets) {
            seen[n++] = made.get().digest();
        }
        for (int k = 0; k < n; k++) {
            for (int other = 0; other < k; other++) {
                Check.isTrue("the digests " + k + " and " + other + " differ", seen[k] != seen[other]);
            }
        }
    }

    private static MarketSockets kept(int slot) {
        MarketSockets x = new MarketSockets();
        x.keep(slot);
        return x;
    }

    private static MarketSockets typed(String text) {
        MarketSockets x = new MarketSockets();
        Check.type(x, text);
        return x;
    }

    private static void add(List<Long> values, long... more) {
        for (long value : more) {
            values.add(value);
        }
    }

    private static long hashOf(List<Long> values) {
        long hash = 3089;
        for (long value : values) {
            hash = 31 * hash + value;
        }
        return hash;
    }
}
