/** Promises 6 to 10: bounds, resets, the reserve, hours and settings. */
final class BreakerTest {
    static void promise6ChangesBounds() {
        MarketSockets x = new MarketSockets();
        Check.same("first", 200, x.bound(0, 10));
        Check.same("next", 10, x.bound(0, 999));
        Check.same("bound", 999, x.breaker(0, 0));
        Check.same("another one", 200, x.bound(3, 300));
        x.undo();
        Check.same("undone", 200, x.breaker(3, 0));
        Check.refusesArgument("breaker -1", x, () -> x.bound(-1, 10));
        Check.refusesArgument("breaker 4", x, () -> x.bound(4, 10));
        Check.refusesArgument("bound 9", x, () -> x.bound(0, 9));
        Check.refusesArgument("bound 1000", x, () -> x.bound(0, 1000));
    }

    static void promise7PutsOnAgain() {
        MarketSockets x = new MarketSockets();
        x.stall(300, 0, 23, 1);
        x.stall(20, 5, 6, 1);
        x.stall(20, 0, 0, 1);
        x.stall(20, 0, 23, 1);
        x.stall(20, 0, 23, 1);
        x.plug(0, 0);
        x.plug(1, 1);
        x.plug(2, 2);
        x.over(3);
        x.plug(3, 3);
        x.plug(4, 4);
        Check.refusesState("on", x, () -> x.reset(0));
        Check.same("trips", 1, x.pass(1));
        Check.same("tripped", 0, x.breaker(0, 1));
        Check.same("heat", 13, x.breaker(0, 2));
        Check.refusesArgument("breaker 4", x, () -> x.reset(4));
        Check.refusesArgument("breaker -1", x, () -> x.reset(-1));
        Check.same("reset", 1, x.reset(0));
        Check.same("on", 1, x.breaker(0, 1));
        Check.same("heat", 0, x.breaker(0, 2));
        Check.same("trips stay", 1, x.breaker(0, 5));
        Check.refusesState("on again", x, () -> x.reset(0));
        x.undo();
        Check.same("tripped after undo", 0, x.breaker(0, 1));
        Check.same("heat after undo", 13, x.breaker(0, 2));
    }

    static void promise7CountsOnlyItsOwnStalls() {
        MarketSockets x = new MarketSockets();
        x.stall(300, 0, 0, 1);
        x.stall(5, 0, 23, 1);
        x.stall(5, 0, 23, 1);
        x.stall(5, 0, 23, 1);
        x.plug(0, 0);
        x.plug(1, 1);
        x.plug(2, 2);
        x.plug(3, 3);
        x.pass(1);
        Check.same("reset", 2, x.reset(0));
    }

    static void promise8SwitchesOver() {
        MarketSockets x = new MarketSockets();
        Check.same("over", 3, x.over(0));
        Check.same("breaker", 3, x.socket(0, 0));
        Check.same("others stay", 0, x.socket(1, 0));
        Check.same("over", 3, x.over(8));
        Check.same("back", 2, x.over(8));
        Check.same("back", 0, x.over(0));
        x.undo();
        Check.same("undone", 3, x.socket(0, 0));
        Check.refusesArgument("socket 9", x, () -> x.over(9));
        Check.refusesArgument("socket 11", x, () -> x.over(11));
        Check.refusesArgument("socket -1", x, () -> x.over(-1));
    }

    static void promise9LetsHoursGoBy() {
        MarketSockets x = new MarketSockets();
        Check.refusesArgument("0 hours", x, () -> x.pass(0));
        Check.refusesArgument("49 hours", x, () -> x.pass(49));
        Check.same("trips", 0, x.pass(1));
        Check.same("trips", 0, x.pass(48));
        Check.same("hour", 49, x.count(0));
        Check.same("saved as one call", 2, x.count(11));
        x.undo();
        Check.same("undone", 1, x.count(0));
    }

    static void promise9EndsAtTheLastHour() {
        MarketSockets x = new MarketSockets();
        x.stall(1, 0, 23, 1);
        for (int k = 0; k < 208; k++) {
            x.pass(48);
        }
        Check.same("hour", 9984, x.count(0));
        Check.refusesState("above 9999", x, () -> x.pass(16));
        Check.refusesArgument("a wrong argument first", x, () -> x.pass(49));
        Check.same("would be, beyond the limit", 48, x.ifPlugged(0, 0, 48, 2));
        Check.same("up to 9999", 0, x.pass(15));
        Check.same("hour", 9999, x.count(0));
        Check.same("hour of the day", 9999 % 24, 15);
        Check.refusesState("above 9999", x, () -> x.pass(1));
        Check.same("an order that the limit stops", 0, Check.open(x, "h1"));
        Check.same("dark hours", 9999, x.count(8));
    }

    static void promise9HeatGrowsAndCools() {
        MarketSockets x = new MarketSockets();
        x.stall(201, 0, 1, 1);
        x.stall(229, 4, 23, 1);
        x.plug(0, 0);
        x.plug(1, 1);
        x.pass(1);
        Check.same("1 more makes 1", 1, x.breaker(0, 2));
        x.pass(1);
        Check.same("again", 2, x.breaker(0, 2));
        x.pass(1);
        Check.same("cooler by 2", 0, x.breaker(0, 2));
        x.pass(1);
        Check.same("not below 0", 0, x.breaker(0, 2));
        x.pass(3);
        Check.same("29 more make 3 each", 9, x.breaker(0, 2));
        Check.same("9 does not trip", 1, x.breaker(0, 1));
        Check.same("12 does", 1, x.pass(1));
        Check.same("tripped", 0, x.breaker(0, 1));
        Check.same("drew while it tripped", 4 * 229, x.stallOf(1, 6));
        Check.same("not dark yet", 0, x.stallOf(1, 7));
        x.pass(2);
        Check.same("a tripped one cools", 8, x.breaker(0, 2));
        Check.same("dark", 2, x.stallOf(1, 7));
        Check.same("trips", 1, x.count(7));
        Check.same("through", 4 * 229 + 2 * 201, x.breaker(0, 6));
    }

    static void promise9CarriesJustItsBound() {
        MarketSockets x = new MarketSockets();
        x.stall(200, 0, 23, 1);
        x.plug(0, 0);
        Check.same("no trips", 0, x.pass(48));
        Check.same("no heat", 0, x.breaker(0, 2));
        x.set(0, 9);
        x.bound(0, 199);
        x.pass(2);
        Check.same("heat", 2, x.breaker(0, 2));
        x.bound(0, 200);
        x.pass(1);
        Check.same("cooler by 9, but not below 0", 0, x.breaker(0, 2));
    }

    static void promise9ShedsByRank() {
        MarketSockets x = new MarketSockets();
        x.stall(100, 0, 23, 5);
        x.stall(120, 0, 23, 5);
        x.stall(120, 0, 23, 5);
        x.stall(300, 1, 23, 9);
        x.stall(300, 0, 23, 9);
        x.set(1, 1);
        x.over(0);
        x.over(1);
        x.plug(0, 0);
        x.plug(1, 1);
        x.plug(2, 9);
        x.plug(3, 10);
        x.plug(4, 3);
        x.shed(4);
        Check.same("no trips", 0, x.pass(1));
        Check.same("the lowest of the greatest load", 1, x.stallOf(1, 5));
        Check.same("one that wants nothing is left", 0, x.stallOf(3, 5));
        Check.same("the lesser load is left, but 220 are too many", 1, x.stallOf(2, 5));
        Check.same("left", 0, x.stallOf(0, 5));
        Check.same("shed by rank", 2, x.count(10));
        Check.same("dark in that hour", 1, x.stallOf(1, 7));
        Check.same("no heat", 0, x.breaker(3, 2));
        x.pass(1);
        Check.same("the greatest rank goes first", 1, x.stallOf(3, 5));
        Check.same("and it is enough", 0, x.stallOf(0, 5));
        Check.same("shed by rank", 3, x.count(10));
        x.undo();
        Check.same("undone", 2, x.count(10));
        x.shed(1);
        x.shed(2);
        x.bound(3, 340);
        x.pass(1);
        Check.same("all of rank 5 stay", 0, x.stallOf(1, 5) + x.stallOf(2, 5) + x.stallOf(0, 5));
        Check.same("340 are not too many", 340, x.breaker(3, 3));
    }

    static void promise10ChangesSettings() {
        MarketSockets x = new MarketSockets();
        int[][] edges = {{2, 1, 9}, {0, 0, 1}, {3, 1, 99}};
        for (int setting = 0; setting < 3; setting++) {
            int which = setting;
            int[] edge = edges[setting];
            Check.same("first", edge[0], x.set(setting, edge[1]));
            Check.same("least", edge[1], x.set(setting, edge[2]));
            Check.same("greatest", edge[2], x.setting(setting));
            Check.refusesArgument("below", x, () -> x.set(which, edge[1] - 1));
            Check.refusesArgument("above", x, () -> x.set(which, edge[2] + 1));
            x.undo();
            Check.same("undone", edge[1], x.setting(setting));
        }
        Check.refusesIndex("setting 3", x, () -> x.set(3, 1));
        Check.refusesIndex("setting -1", x, () -> x.set(-1, 1));
        Check.refusesIndex("setting 3, wrong value", x, () -> x.set(3, Integer.MIN_VALUE));
    }
}
