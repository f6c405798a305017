/** Promises 23 to 28: what would be, the share and the hash. */
final class WouldBeTest {
    static void promise23TellsWhatHoursWouldBring() {
        MarketSockets x = new MarketSockets();
        x.stall(150, 0, 23, 1);
        x.stall(100, 20, 3, 5);
        x.plug(0, 0);
        long before = x.digest();
        Check.same("no trips in 1 hour", 0, x.ifPlugged(1, 1, 1, 0));
        Check.same("trips in 2 hours", 1, x.ifPlugged(1, 1, 2, 0));
        Check.same("its meter runs while it trips", 200, x.ifPlugged(1, 1, 2, 2));
        Check.same("trips in 48 hours", 1, x.ifPlugged(1, 1, 48, 0));
        Check.same("dark hours of both", 46 + 14, x.ifPlugged(1, 1, 48, 1));
        Check.same("its meter in 48 hours", 200, x.ifPlugged(1, 1, 48, 2));
        Check.same("trips elsewhere", 0, x.ifPlugged(1, 3, 48, 0));
        Check.same("dark hours elsewhere", 0, x.ifPlugged(1, 11, 48, 1));
        Check.same("its meter elsewhere", 1600, x.ifPlugged(1, 11, 48, 2));
        Check.same("another's socket", -1, x.ifPlugged(1, 0, 1, 1));
        Check.same("its own socket", 150, x.ifPlugged(0, 0, 1, 2));
        Check.same("dark hours without the other", 8, x.ifPlugged(0, 8, 24, 1));
        Check.same("nothing is changed", before, x.digest());
        Check.same("nothing is saved", 3, x.count(11));
    }

    static void promise23CountsOnlyTheseHours() {
        MarketSockets x = new MarketSockets();
        x.stall(300, 0, 23, 1);
        x.stall(5, 0, 23, 1);
        x.plug(0, 0);
        x.pass(3);
        Check.same("trips", 1, x.ifPlugged(0, 3, 2, 0));
        Check.same("dark hours", 3, x.ifPlugged(0, 3, 2, 1));
        Check.same("meter", 300, x.ifPlugged(0, 3, 2, 2));
        Check.same("at the tripped one", 0, x.ifPlugged(0, 1, 2, 0));
        Check.same("dark hours at the tripped one", 4, x.ifPlugged(0, 1, 2, 1));
        Check.same("meter at the tripped one", 0, x.ifPlugged(0, 1, 2, 2));
    }

    static void promise23Refuses() {
        MarketSockets x = new MarketSockets();
        Check.refusesIndex("no stall", x, () -> x.ifPlugged(0, 12, 0, 3));
        x.stall(300, 0, 23, 1);
        x.stall(300, 0, 23, 1);
        x.plug(0, 0);
        Check.refusesIndex("stall 2", x, () -> x.ifPlugged(2, 0, 1, 0));
        Check.refusesIndex("stall -1", x, () -> x.ifPlugged(-1, 0, 1, 0));
        Check.refusesArgument("socket 12", x, () -> x.ifPlugged(1, 12, 1, 0));
        Check.refusesArgument("socket -1", x, () -> x.ifPlugged(1, -1, 1, 0));
        Check.refusesArgument("0 hours", x, () -> x.ifPlugged(1, 0, 0, 0));
        Check.refusesArgument("49 hours", x, () -> x.ifPlugged(1, 0, 49, 0));
        Check.refusesArgument("what 3", x, () -> x.ifPlugged(1, 0, 1, 3));
        Check.refusesArgument("what -1", x, () -> x.ifPlugged(1, 0, 1, -1));
    }

    static void promise24TellsWhenABreakerTrips() {
        MarketSockets x = new MarketSockets();
        x.stall(201, 0, 23, 1);
        x.plug(0, 0);
        Check.same("1 a hour", 10, x.tripsIn(0));
        Check.same("another one", -1, x.tripsIn(1));
        x.pass(9);
        Check.same("one left", 1, x.tripsIn(0));
        x.pass(1);
        Check.same("it has tripped", 0, x.tripsIn(0));
        Check.refusesArgument("breaker 4", x, () -> x.tripsIn(4));
        Check.refusesArgument("breaker -1", x, () -> x.tripsIn(-1));
    }

    static void promise24HeatsAndCoolsByTheHours() {
        for (int more = 1; more <= 60; more += 7) {
            for (int hours = 1; hours <= 12; hours++) {
                MarketSockets x = new MarketSockets();
                x.stall(200 + more, 0, hours - 1, 1);
                x.plug(0, 0);
                x.set(0, 1);
                int heat = 0;
                int due = -1;
                for (int hour = 0; hour < 96 && due == -1; hour++) {
                    heat = hour % 24 < hours ? heat + more / 10 + 1 : Math.max(0, heat - 1);
                    due = heat > 9 ? hour + 1 : -1;
                }
                Check.same("tripsIn with " + more + " more for " + hours, due, x.tripsIn(0));
            }
        }
    }

    /** Each day ends 2 hotter than it began, so that the reserve trips in the 98th hour. */
    static void promise24TakesThe96thHourAndNotThe97th() {
        MarketSockets x = new MarketSockets();
        Edge.fillReserve(x, 1);
        x.set(0, 1);
        Check.same("the 98th", -1, x.tripsIn(3));
        x.pass(1);
        Check.same("the 97th", -1, x.tripsIn(3));
        x.pass(1);
        Check.same("the 96th", 96, x.tripsIn(3));
        x.pass(48);
        Check.same("the 48th", 48, x.tripsIn(3));
        Check.same("not yet", 0, x.pass(47));
        Check.same("now", 1, x.pass(1));
    }

    static void promise24KnowsOfSheddingByRank() {
        MarketSockets x = new MarketSockets();
        x.stall(300, 23, 23, 1);
        x.plug(0, 0);
        Check.same("in the 24th", 24, x.tripsIn(0));
        x.set(1, 1);
        Check.same("shed by rank, it never trips", -1, x.tripsIn(0));
    }

    static void promise25FindsTheBestSocket() {
        MarketSockets x = new MarketSockets();
        x.stall(150, 0, 23, 1);
        x.stall(100, 0, 23, 1);
        x.stall(300, 0, 23, 1);
        Check.same("all free", 0, x.bestSocket(0));
        x.plug(0, 0);
        Check.same("beside 150 it trips", 3, x.bestSocket(1));
        Check.same("its own one", 0, x.bestSocket(0));
        x.plug(1, 4);
        Check.same("its own one is no better than a lower one", 3, x.bestSocket(1));
        Check.same("one that trips anywhere", 6, x.bestSocket(2));
        x.over(6);
        Check.same("the lowest one of the reserve", 6, x.bestSocket(2));
        Check.same("nothing is changed", 4, x.stallOf(1, 4));
        Check.refusesIndex("stall 3", x, () -> x.bestSocket(3));
        Check.refusesIndex("stall -1", x, () -> x.bestSocket(-1));
    }

    static void promise25CountsTripsAfterDarkHours() {
        MarketSockets x = new MarketSockets();
        // At 23 the breaker 0 trips in the last of the hours, which brings no dark hour.
        x.stall(150, 23, 23, 1);
        x.stall(200, 23, 23, 1);
        x.plug(0, 0);
        Check.same("trips beside it", 1, x.ifPlugged(1, 1, 24, 0));
        Check.same("no dark hours beside it", 0, x.ifPlugged(1, 1, 24, 1));
        Check.same("fewest trips", 3, x.bestSocket(1));
    }

    static void promise25LooksAtADay() {
        MarketSockets x = new MarketSockets();
        x.stall(150, 23, 22, 1);
        x.stall(200, 23, 23, 1);
        x.plug(0, 0);
        x.pass(1);
        Check.same("a trip in the 23rd brings dark hours in the 24th", 3, x.bestSocket(1));
    }

    static void promise26FindsTheLeastBound() {
        MarketSockets x = new MarketSockets();
        Check.same("nothing there", 10, x.leastBound(0));
        x.stall(500, 0, 23, 1);
        x.stall(499, 0, 23, 1);
        x.stall(1, 0, 23, 1);
        x.plug(0, 0);
        Check.same("500 all day", 500, x.leastBound(0));
        x.plug(1, 1);
        Check.same("999 all day", 999, x.leastBound(0));
        x.plug(2, 2);
        Check.same("1000 all day", -1, x.leastBound(0));
        Check.same("another one", 10, x.leastBound(1));
        x.pass(1);
        Check.same("tripped", 0, x.breaker(0, 1));
        Check.same("it would be put on", -1, x.leastBound(0));
        x.pull(2);
        Check.same("with the heat 0", 999, x.leastBound(0));
        x.set(1, 1);
        Check.same("shed by rank, it never trips", 10, x.leastBound(0));
        Check.same("nothing is changed", 200, x.breaker(0, 0));
        Check.refusesArgument("breaker 4", x, () -> x.leastBound(4));
        Check.refusesArgument("breaker -1", x, () -> x.leastBound(-1));
    }

    static void promise26AllowsShortHeat() {
        MarketSockets x = new MarketSockets();
        x.stall(300, 5, 5, 1);
        x.plug(0, 0);
        // (300 - 211) / 10 + 1 is 9, which does not trip
        Check.same("one hour a day", 211, x.leastBound(0));
        x.stall(300, 6, 6, 1);
        x.plug(1, 1);
        // two hours of 4 each
        Check.same("two hours a day", 261, x.leastBound(0));
    }

    /** Each day ends 4 hotter than it began, so that from midnight on the reserve trips in the 47th hour. */
    static void promise26LooksAt48Hours() {
        MarketSockets x = new MarketSockets();
        Edge.fillReserve(x, 10);
        Check.same("a trip in the 47th hour", 201, x.leastBound(3));
        x.pass(22);
        Check.same("a trip in the 49th hour", 200, x.leastBound(3));
        x.pass(1);
        Check.same("a trip in the 48th hour", 201, x.leastBound(3));
    }

    static void promise27TellsTheShare() {
        MarketSockets x = new MarketSockets();
        Check.sameDouble("nothing wanted", 1.0, x.servedShare());
        x.stall(10, 1, 3, 1);
        x.stall(20, 2, 2, 1);
        x.plug(0, 0);
        x.pass(1);
        Check.sameDouble("nothing wanted yet", 1.0, x.servedShare());
        x.pass(1);
        Check.sameDouble("all served", 1.0, x.servedShare());
        x.pass(1);
        Check.sameDouble("2 of 3", 2.0 / 3.0, x.servedShare());
        x.pull(0);
        x.pass(1);
        Check.sameDouble("2 of 4", 0.5, x.servedShare());
        x.undo();
        Check.sameDouble("undone", 2.0 / 3.0, x.servedShare());
        x.goBack(x.keep(0) >= 0 ? 0 : 1);
        Check.sameDouble("a snapshot has it", 2.0 / 3.0, x.servedShare());
        MarketSockets y = new MarketSockets();
        y.stall(10, 0, 23, 1);
        y.pass(1);
        Check.sameDouble("none served", 0.0, y.servedShare());
    }

    static void promise28IsTheHashOfTheList() {
        MarketSockets x = new MarketSockets();
        Check.same("digest", digestOf(x, 0, 0, ""), x.digest());
        x.keep(1);
        Check.same("digest", digestOf(x, 0, 1, ""), x.digest());
        Check.open(x, "s150@0-23*4;s90@18-3*6;s240@5-9*9;s30@0-23*2");
        Check.open(x, "p0=0;p1=1;p2=4;p3=9");
        Check.type(x, "h1;!~");
        for (int k = 0; k < 30; k++) {
            x.pass(1 + k % 7);
            Check.same("digest", digestOf(x, 0, 1, "h1;!~"), x.digest());
        }
        x.keep(0);
        x.over(1);
        Check.same("digest", digestOf(x, 1, 1, "h1;!~"), x.digest());
        Check.same("digest again", x.digest(), x.digest());
    }

    static void promise28HasTheBitsOfEveryShare() {
        MarketSockets x = new MarketSockets();
        x.stall(10, 0, 23, 1);
        x.stall(10, 23, 23, 1);
        x.plug(1, 0);
        for (int k = 0; k < 200; k++) {
            x.pass(1 + k % 48);
            Check.same("digest", digestOf(x, 0, 0, ""), x.digest());
        }
        MarketSockets served = new MarketSockets();
        served.stall(10, 0, 23, 1);
        served.plug(0, 0);
        served.pass(24);
        Check.same("all served", digestOf(served, 0, 0, ""), served.digest());
    }

    /** The hash as the document lists it. */
    private static long digestOf(MarketSockets x, int slot0, int slot1, String buffer) {
        Hash hash = new Hash();
        for (int what = 0; what <= 11; what++) {
            hash.add(x.count(what));
        }
        for (int setting = 0; setting <= 2; setting++) {
            hash.add(x.setting(setting));
        }
        for (int stall = 0; stall < x.count(1); stall++) {
            for (int what = 0; what <= 9; what++) {
                hash.add(x.stallOf(stall, what));
            }
            for (int what = 0; what <= 2; what++) {
                hash.add(x.ifPlugged(stall, 10, 12, what));
            }
            hash.add(x.bestSocket(stall));
        }
        for (int breaker = 0; breaker < 4; breaker++) {
            for (int what = 0; what <= 6; what++) {
                hash.add(x.breaker(breaker, what));
            }
            hash.add(x.tripsIn(breaker));
        }
        for (int socket = 0; socket < 12; socket++) {
            hash.add(x.socket(socket, 0));
            hash.add(x.socket(socket, 1));
        }
        hash.add(x.leastBound(0));
        hash.add(Double.doubleToLongBits(x.servedShare()));
        hash.add(slot0);
        hash.add(slot1);
        hash.add(buffer.length());
        for (char sign : buffer.toCharArray()) {
            hash.add(sign);
        }
        return hash.value;
    }

    private static final class Hash {
        long value = 3089;

        void add(long next) {
            value = 31 * value + next;
        }
    }
}
