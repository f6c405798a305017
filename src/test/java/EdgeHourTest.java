/** The section "Terms" up to the settings: a test of each sentence that names an edge. */
final class EdgeHourTest {
    private static final String STALL = "A stall has a load, 1 to 500, an hour from which on and one up to which it"
            + " draws it (0 to 23 each; if the latter is less, over midnight), a rank, 1 to 9, and a socket or none,"
            + " at first none; at most one stall is at a socket.";
    private static final String SETTINGS = "0: how much breakers become cooler, 1 to 9, at first 2; 1: 1 if stalls"
            + " are shed by rank, otherwise 0, at first 0; 2: the fee for 10 of the meter, 1 to 99, at first 3.";

    @Says("All numbers are integers, but for a share; divisions are rounded down.")
    static void termsDivisionsAreRoundedDown() {
        int[] excesses = {1, 9, 10, 19, 20, 99};
        int[] heats = {1, 1, 2, 2, 3, 10};
        for (int k = 0; k < excesses.length; k++) {
            MarketSockets x = Edge.on(0, 200 + excesses[k]);
            x.pass(1);
            Check.same("heat by " + excesses[k], heats[k], x.breaker(0, 2));
        }
        int[] meters = {1, 3, 4, 6, 7, 10};
        int[] fees = {0, 0, 1, 1, 2, 3};
        for (int k = 0; k < meters.length; k++) {
            MarketSockets x = Edge.on(0, meters[k]);
            x.pass(1);
            Check.same("fee of " + meters[k] + " times 3", fees[k], x.stallOf(0, 9));
        }
    }

    @Says("There are 4 breakers, numbered from 0, each with a bound, 10 to 999, at first 200; it is on or tripped,"
            + " at first on; its heat is at first 0.")
    static void termsBreakersAreOnAtFirst() {
        MarketSockets x = new MarketSockets();
        for (int breaker = 0; breaker < 4; breaker++) {
            Check.same("bound", 200, x.breaker(breaker, 0));
            Check.same("on", 1, x.breaker(breaker, 1));
            Check.same("heat", 0, x.breaker(breaker, 2));
        }
        Check.same("breakers that are on", 4, x.count(4));
        Edge.refuses("a fifth", Edge.ARGUMENT, MarketSockets::new, y -> y.breaker(4, 0));
    }

    @Says("There are 12 sockets, numbered from 0; the socket k is on the breaker k divided by 3.")
    static void termsTheSocketsAreByThrees() {
        MarketSockets x = new MarketSockets();
        int[] breakers = {0, 0, 0, 1, 1, 1, 2, 2, 2, 3, 3, 3};
        for (int socket = 0; socket < 12; socket++) {
            Check.same("breaker of " + socket, breakers[socket], x.socket(socket, 0));
        }
        Edge.refuses("a 13th", Edge.ARGUMENT, MarketSockets::new, y -> y.socket(12, 0));
    }

    @Says("The breaker 3 is the reserve: a socket of another breaker can be switched over to it, and back.")
    static void termsSocketsGoOverToTheReserve() {
        for (int socket = 0; socket < 9; socket++) {
            MarketSockets x = new MarketSockets();
            x.over(socket);
            Check.same("over", 3, x.socket(socket, 0));
            x.over(socket);
            Check.same("back", socket / 3, x.socket(socket, 0));
        }
        for (int socket = 9; socket < 12; socket++) {
            int which = socket;
            Edge.refuses("the reserve's own socket " + socket, Edge.ARGUMENT, Edge::busy, x -> x.over(which));
        }
    }

    @Says("There are at most 10 stalls, numbered from 0 in the order in which they came.")
    static void termsThereAreAtMostTenStalls() {
        MarketSockets x = new MarketSockets();
        for (int stall = 0; stall < 10; stall++) {
            Check.same("stalls before", stall, x.count(1));
            Check.same("number", stall, x.stall(100 - stall, 0, 0, 1));
        }
        for (int stall = 0; stall < 10; stall++) {
            Check.same("load", 100 - stall, x.stallOf(stall, 0));
        }
        Edge.refuses("an 11th", Edge.STATE, Edge::full, y -> y.stall(1, 0, 0, 1));
    }

    @Says(STALL)
    static void termsHoursGoOverMidnight() {
        for (int from = 0; from < 24; from++) {
            for (int to = 0; to < 24; to++) {
                MarketSockets x = new MarketSockets();
                x.stall(1, from, to, 1);
                boolean[] wants = new boolean[24];
                for (int hour = from; hour != to; hour = (hour + 1) % 24) {
                    wants[hour] = true;
                }
                wants[to] = true;
                for (int hour = 0; hour < 26; hour++) {
                    Check.same("reason at " + hour + " of " + from + " to " + to, wants[hour % 24] ? 2 : 1,
                            x.stallOf(0, 8));
                    x.pass(1);
                }
            }
        }
    }

    @Says(STALL)
    static void termsAtMostOneStallIsAtASocket() {
        MarketSockets x = new MarketSockets();
        x.stall(1, 0, 0, 1);
        x.stall(500, 23, 23, 9);
        Check.same("at first at none", -2, x.stallOf(0, 4) + x.stallOf(1, 4));
        for (int socket = 0; socket < 12; socket++) {
            int there = socket;
            Edge.refuses("a second one at " + socket, Edge.STATE, () -> {
                MarketSockets y = Edge.full();
                y.plug(4, there);
                return y;
            }, y -> y.plug(5, there));
        }
    }

    @Says("It is shed, or not.")
    static void termsItIsNotShedAtFirst() {
        Check.same("shed", 0, Edge.one().stallOf(0, 5));
        MarketSockets x = Edge.one();
        x.shed(0);
        Check.same("shed", 1, x.stallOf(0, 5));
    }

    @Says("In an hour a stall wants its load if the hour of the day is in its hours.")
    static void termsItWantsItsLoadInItsHoursAlone() {
        MarketSockets x = new MarketSockets();
        x.stall(3, 5, 6, 1);
        x.stall(5, 23, 0, 1);
        x.plug(0, 0);
        x.plug(1, 1);
        int[] first = {0, 0, 0, 0, 0, 3, 3, 0};
        for (int hour = 0; hour < 48; hour++) {
            int ofDay = hour % 24;
            int due = (ofDay < 8 ? first[ofDay] : 0) + (ofDay == 23 || ofDay == 0 ? 5 : 0);
            Check.same("carried at " + hour, due, x.breaker(0, 3));
            x.pass(1);
        }
        Check.same("meter within a day", 12, x.stallOf(0, 6));
        Check.same("meter over midnight", 20, x.stallOf(1, 6));
        Check.same("dark hours", 0, x.count(8));
    }

    @Says("It draws it if, besides, it is at a socket, is not shed, and the breaker that this socket is on then has"
            + " not tripped.")
    static void termsItDrawsAtASocketNotShedAndOn() {
        MarketSockets x = Edge.tripped();
        Check.same("tripped", 0, x.count(3));
        x.reset(3);
        Check.same("its breaker is on", 1, x.count(3));
        x.shed(3);
        Check.same("shed", 0, x.count(3));
        x.shed(3);
        x.pull(3);
        Check.same("at no socket", 0, x.count(3));
        x.over(0);
        Check.same("the breaker that the socket is on then", 1, x.count(3));
        x.over(0);
        Check.same("back at the tripped one", 0, x.count(3));
    }

    @Says("The hour is at first 0; the hour of the day is the rest of it by 24.")
    static void termsTheHourOfTheDayBeginsAgainAt24() {
        MarketSockets x = new MarketSockets();
        Check.same("hour", 0, x.count(0));
        x.stall(1, 23, 23, 1);
        x.stall(1, 0, 0, 1);
        x.stall(1, 15, 15, 1);
        Check.same("0", 2, x.stallOf(1, 8));
        x.pass(23);
        Check.same("23", 2, x.stallOf(0, 8));
        x.pass(1);
        Check.same("24 is not 23", 1, x.stallOf(0, 8));
        Check.same("24 is 0", 2, x.stallOf(1, 8));
        x.pass(24);
        Check.same("48 is 0", 2, x.stallOf(1, 8));
        Edge.passTo(x, 9999);
        Check.same("9999 is 15", 2, x.stallOf(2, 8));
        Check.same("dark hours at 15", 416, x.stallOf(2, 7));
        Check.same("dark hours at 0", 417, x.stallOf(1, 7));
    }

    // ---- 1. stalls are shed by rank

    private static final String SHEDDING = "For each breaker that is on, by ascending numbers: as long as it carries"
            + " more than its bound, and setting 1 is 1, the stall on it with the greatest rank that draws something,"
            + " of several the one with the greatest load, of several the lowest one, is shed (until shed() lets it"
            + " draw again).";

    @Says(SHEDDING)
    static void termsItShedsAsLongAsItCarriesMore() {
        shedsAt(100, "", 100);
        shedsAt(100, "0", 101);
        shedsAt(100, "1", 50, 51);
        shedsAt(100, "", 50, 50);
        shedsAt(100, "01", 80, 80, 80);
        shedsAt(100, "012", 101, 101, 101);
        shedsAt(10, "012", 500, 400, 300);
        shedsAt(10, "01", 12, 11, 10);
    }

    @Says(SHEDDING)
    static void termsItShedsTheGreatestRankThenLoadThenTheLowest() {
        MarketSockets x = new MarketSockets();
        Check.open(x, "s30@0-23*8;s20@0-23*9;s40@0-23*9;s40@0-23*9");
        Check.open(x, "s90@0-23*1;p0=3;p1=4;p2=5;p3=6;p4=7");
        x.over(6);
        x.over(3);
        x.over(4);
        x.over(5);
        x.over(7);
        x.set(1, 1);
        int[] bounds = {219, 179, 139, 119, 89};
        int[] victims = {2, 3, 1, 0, 4};
        for (int k = 0; k < 5; k++) {
            x.bound(3, bounds[k] + 1);
            x.pass(1);
            Check.same("carries just its bound", 0, x.stallOf(victims[k], 5));
            x.bound(3, bounds[k]);
            x.pass(1);
            Check.same("the next one", 1, x.stallOf(victims[k], 5));
            Check.same("shed by rank", k + 1, x.count(10));
        }
        Check.same("no one draws", 0, x.count(3));
    }

    @Says(SHEDDING)
    static void termsItShedsAmongTenStalls() {
        MarketSockets x = EdgeStallTest.allPlugged();
        for (int socket = 0; socket < 9; socket++) {
            x.over(socket);
        }
        x.set(1, 1);
        x.bound(3, 10);
        x.pass(1);
        for (int stall = 0; stall < 10; stall++) {
            Check.same("all but the one of 10", stall == 0 ? 0 : 1, x.stallOf(stall, 5));
        }
        x.shed(9);
        x.bound(3, 19);
        x.pass(1);
        Check.same("the last of ten goes first", 1, x.stallOf(9, 5));
    }

    @Says(SHEDDING)
    static void termsItShedsOnlyWhatDrawsThere() {
        MarketSockets x = new MarketSockets();
        Check.open(x, "s90@1-23*9;s80@0-23*9;s70@0-23*9;s60@0-23*1;s60@0-23*1");
        x.plug(0, 0);
        x.plug(1, 3);
        x.plug(3, 1);
        x.plug(4, 2);
        x.set(1, 1);
        x.bound(0, 60);
        x.pass(1);
        Check.same("it wants nothing", 0, x.stallOf(0, 5));
        Check.same("it is on another breaker", 0, x.stallOf(1, 5));
        Check.same("it is at no socket", 0, x.stallOf(2, 5));
        Check.same("the lowest one that draws", 1, x.stallOf(3, 5));
        Check.same("the rest is not more than the bound", 0, x.stallOf(4, 5));
        MarketSockets tripped = Edge.tripped();
        tripped.set(1, 1);
        tripped.pass(48);
        Check.same("on no breaker that has tripped", 0, tripped.count(10));
    }

    @Says(SHEDDING)
    static void termsItShedsOnlyWithSetting1() {
        MarketSockets x = Edge.on(0, 201);
        x.pass(1);
        Check.same("setting 1 is 0", 0, x.stallOf(0, 5));
        Check.same("it becomes hotter", 1, x.breaker(0, 2));
        x.set(1, 1);
        x.pass(1);
        Check.same("setting 1 is 1", 1, x.stallOf(0, 5));
        Check.same("it becomes cooler", 0, x.breaker(0, 2));
        Check.same("a dark hour in this hour already", 1, x.stallOf(0, 7));
        Check.same("no meter in this hour", 201, x.stallOf(0, 6));
    }

    @Says(SHEDDING)
    static void termsItIsShedUntilItIsLetDrawAgain() {
        MarketSockets x = Edge.on(0, 201);
        x.set(1, 1);
        x.pass(1);
        x.set(1, 0);
        x.bound(0, 999);
        x.pass(48);
        Check.same("still shed", 1, x.stallOf(0, 5));
        Check.same("dark hours", 49, x.stallOf(0, 7));
        x.shed(0);
        x.pass(1);
        Check.same("meter", 201, x.stallOf(0, 6));
        Check.same("shed by rank so far", 1, x.count(10));
    }

    // ---- 2. to 5.

    private static final String HEAT = "Each breaker that is on and carries more than its bound becomes hotter by"
            + " what it carries more, divided by 10, and 1; each other one, a tripped one, too, becomes cooler by"
            + " setting 0 (0 at least).";

    @Says(HEAT)
    static void termsItBecomesHotterByWhatItCarriesMore() {
        for (int load = 190; load <= 500; load++) {
            MarketSockets x = Edge.on(2, load);
            x.pass(1);
            Check.same("heat by " + load, load <= 200 ? 0 : (load - 200) / 10 + 1, x.breaker(2, 2));
            Check.same("heat of another one", 0, x.breaker(1, 2));
        }
    }

    @Says(HEAT)
    static void termsItBecomesCoolerDownTo0() {
        for (int cooling = 1; cooling <= 9; cooling++) {
            MarketSockets x = Edge.on(0, 289);
            x.set(0, cooling);
            x.pass(1);
            x.bound(0, 289);
            for (int hours = 0; hours < 10; hours++) {
                Check.same("heat after " + hours, Math.max(0, 9 - hours * cooling), x.breaker(0, 2));
                x.pass(1);
            }
            MarketSockets y = Edge.on(1, 300);
            y.set(0, cooling);
            y.pass(1);
            for (int hours = 0; hours < 13; hours++) {
                Check.same("heat of a tripped one after " + hours, Math.max(0, 11 - hours * cooling), y.breaker(1, 2));
                Check.same("it stays tripped", 0, y.breaker(1, 1));
                y.pass(1);
            }
        }
    }

    @Says("Each breaker that is on, and whose heat is greater than 9, trips.")
    static void termsItTripsWithAHeatAbove9() {
        MarketSockets nine = Edge.on(0, 289);
        Check.same("trips at 9", 0, nine.pass(1));
        Check.same("heat", 9, nine.breaker(0, 2));
        Check.same("on", 1, nine.breaker(0, 1));
        MarketSockets ten = Edge.on(0, 290);
        Check.same("trips at 10", 1, ten.pass(1));
        Check.same("heat", 10, ten.breaker(0, 2));
        Check.same("tripped", 0, ten.breaker(0, 1));
        Check.same("trips of one that has tripped, and is hot", 0, Edge.tripped().pass(1));
    }

    @Says("Each stall that draws its load (with the breakers as they are ahead of 3) has its meter run on by it; one"
            + " that wants its load and does not draw it has a dark hour.")
    static void termsMetersRunInTheHourOfTheTrip() {
        MarketSockets x = Edge.on(0, 500, 40);
        x.stall(7, 0, 23, 1);
        x.stall(7, 1, 23, 1);
        x.pass(1);
        Check.same("tripped", 0, x.breaker(0, 1));
        Check.same("meter of the hour of the trip", 500, x.stallOf(0, 6));
        Check.same("meter of its neighbour", 40, x.stallOf(1, 6));
        Check.same("through the breaker", 540, x.breaker(0, 6));
        Check.same("dark hours of the hour of the trip", 0, x.stallOf(0, 7) + x.stallOf(1, 7));
        Check.same("a dark hour at no socket", 1, x.stallOf(2, 7));
        Check.same("none without wanting", 0, x.stallOf(3, 7));
        x.pass(1);
        Check.same("meter of the next hour", 500, x.stallOf(0, 6));
        Check.same("dark hours of the next hour", 4 + 1, x.count(8));
    }

    @Says("The hour becomes 1 more.")
    static void termsTheHourBecomes1More() {
        MarketSockets x = new MarketSockets();
        for (int hour = 0; hour < 100; hour++) {
            Check.same("hour", hour, x.count(0));
            x.pass(1);
        }
    }

    @Says("The reason of a stall is the first one of these that is so, for the hour of now: 1: it does not want its"
            + " load; 2: it is at no socket; 3: its breaker has tripped; 4: it is shed; 0: it draws its load.")
    static void termsTheReasonIsTheFirstThatIsSo() {
        for (int k = 0; k < 16; k++) {
            boolean wants = (k & 1) != 0;
            boolean plugged = (k & 2) != 0;
            boolean on = (k & 4) != 0;
            boolean shed = (k & 8) != 0;
            MarketSockets x = Edge.tripped();
            x.stall(9, wants ? 1 : 2, wants ? 1 : 0, 1);
            if (plugged) {
                x.plug(4, 4);
            }
            if (on) {
                x.reset(1);
            }
            if (shed) {
                x.shed(4);
            }
            int due = !wants ? 1 : !plugged ? 2 : !on ? 3 : shed ? 4 : 0;
            Check.same("reason of case " + k, due, x.stallOf(4, 8));
        }
    }

    @Says(SETTINGS)
    static void termsSettingsHaveTheirRanges() {
        int[] first = {2, 0, 3};
        int[] least = {1, 0, 1};
        int[] most = {9, 1, 99};
        for (int setting = 0; setting < 3; setting++) {
            int which = setting;
            MarketSockets x = new MarketSockets();
            Check.same("at first", first[setting], x.setting(setting));
            x.set(setting, least[setting]);
            Check.same("least", least[setting], x.setting(setting));
            x.set(setting, most[setting]);
            Check.same("most", most[setting], x.setting(setting));
            Edge.refuses("too small", Edge.ARGUMENT, Edge::busy, y -> y.set(which, least[which] - 1));
            Edge.refuses("too large", Edge.ARGUMENT, Edge::busy, y -> y.set(which, most[which] + 1));
        }
    }

    @Says(SETTINGS)
    static void termsSettingsCountFromTheNextHourOn() {
        MarketSockets x = Edge.on(0, 10);
        x.pass(1);
        x.set(2, 1);
        Check.same("the least fee for 10", 1, x.stallOf(0, 9));
        x.set(2, 99);
        Check.same("the greatest fee for 10", 99, x.stallOf(0, 9));
        MarketSockets y = Edge.on(0, 289);
        y.pass(1);
        y.set(0, 9);
        Check.same("a setting cools nothing by itself", 9, y.breaker(0, 2));
        y.set(1, 1);
        Check.same("and sheds nothing by itself", 0, y.stallOf(0, 5));
    }

    /** A breaker with this bound sheds, in one hour, just the stalls with these numbers. */
    private static void shedsAt(int bound, String due, int... loads) {
        MarketSockets x = Edge.on(1, loads);
        x.bound(1, bound);
        x.set(1, 1);
        Check.same("trips", 0, x.pass(1));
        for (int stall = 0; stall < loads.length; stall++) {
            Check.same("shed " + stall, due.indexOf('0' + stall) < 0 ? 0 : 1, x.stallOf(stall, 5));
        }
        Check.same("heat", 0, x.breaker(1, 2));
        Check.same("shed by rank", due.length(), x.count(10));
    }
}
