/** Promises 1 and 18 to 22: a new object, and looks. */
final class LookTest {
    static void promise1IsEmpty() {
        MarketSockets x = new MarketSockets();
        Check.same("NONE", -1, MarketSockets.NONE);
        for (int what = 0; what < 12; what++) {
            Check.same("count " + what, what == 4 ? 4 : 0, x.count(what));
        }
        int[] breaker = {200, 1, 0, 0, 0, 0, 0};
        for (int k = 0; k < 4; k++) {
            for (int what = 0; what < 7; what++) {
                Check.same("breaker " + what, breaker[what], x.breaker(k, what));
            }
        }
        Check.same("setting 0", 2, x.setting(0));
        Check.same("setting 1", 0, x.setting(1));
        Check.same("setting 2", 3, x.setting(2));
        Check.same("the buffer", 0, x.clearBuffer());
        Check.refusesState("slot 0", x, () -> x.goBack(0));
        Check.refusesState("slot 1", x, () -> x.goBack(1));
        Check.refusesState("undo", x, x::undo);
    }

    static void promise1ObjectsAreApart() {
        MarketSockets x = new MarketSockets();
        x.stall(1, 0, 0, 1);
        x.set(2, 99);
        x.pass(1);
        MarketSockets y = new MarketSockets();
        Check.same("stalls", 0, y.count(1));
        Check.same("fee", 3, y.setting(2));
        y.set(2, 9);
        Check.same("fee of the first", 99, x.setting(2));
    }

    static void promise18TellsReasonsInTheirOrder() {
        MarketSockets x = new MarketSockets();
        x.stall(300, 0, 1, 1);
        x.shed(0);
        Check.same("at no socket goes ahead of shed", 2, x.stallOf(0, 8));
        x.plug(0, 3);
        Check.same("shed", 4, x.stallOf(0, 8));
        x.shed(0);
        Check.same("draws", 0, x.stallOf(0, 8));
        x.pass(1);
        Check.same("tripped", 3, x.stallOf(0, 8));
        x.shed(0);
        Check.same("tripped goes ahead of shed", 3, x.stallOf(0, 8));
        x.over(3);
        Check.same("the reserve has not tripped", 4, x.stallOf(0, 8));
        x.over(3);
        x.pass(1);
        Check.same("wanting nothing goes ahead of all", 1, x.stallOf(0, 8));
        x.pull(0);
        Check.same("still", 1, x.stallOf(0, 8));
    }

    static void promise18HoursOverMidnight() {
        MarketSockets x = new MarketSockets();
        x.stall(10, 22, 1, 1);
        x.stall(10, 1, 22, 1);
        x.stall(10, 5, 5, 1);
        x.stall(10, 5, 4, 1);
        for (int hour = 0; hour < 30; hour++) {
            int ofDay = hour % 24;
            Check.same("over midnight at " + hour, ofDay >= 22 || ofDay <= 1 ? 2 : 1, x.stallOf(0, 8));
            Check.same("within a day at " + hour, ofDay >= 1 && ofDay <= 22 ? 2 : 1, x.stallOf(1, 8));
            Check.same("one hour at " + hour, ofDay == 5 ? 2 : 1, x.stallOf(2, 8));
            Check.same("all hours at " + hour, 2, x.stallOf(3, 8));
            x.pass(1);
        }
        Check.same("dark hours over midnight", 6, x.stallOf(0, 7));
        Check.same("dark hours of one hour", 2, x.stallOf(2, 7));
        Check.same("dark hours of all", 30, x.stallOf(3, 7));
    }

    static void promise18FeesAreRoundedDown() {
        MarketSockets x = new MarketSockets();
        x.stall(3, 0, 23, 1);
        x.plug(0, 0);
        x.pass(1);
        Check.same("9 tenths", 0, x.stallOf(0, 9));
        x.pass(2);
        Check.same("27 tenths", 2, x.stallOf(0, 9));
        x.set(2, 99);
        Check.same("891 tenths", 89, x.stallOf(0, 9));
    }

    static void promise18Refuses() {
        MarketSockets x = new MarketSockets();
        Check.refusesIndex("no stall", x, () -> x.stallOf(0, 0));
        Check.refusesIndex("no stall, wrong what", x, () -> x.stallOf(0, 10));
        x.stall(3, 0, 23, 1);
        Check.refusesIndex("stall 1", x, () -> x.stallOf(1, 0));
        Check.refusesIndex("stall -1", x, () -> x.stallOf(-1, 0));
        Check.refusesArgument("what 10", x, () -> x.stallOf(0, 10));
        Check.refusesArgument("what -1", x, () -> x.stallOf(0, -1));
    }

    static void promise19TellsLoads() {
        MarketSockets x = new MarketSockets();
        x.stall(20, 0, 5, 1);
        x.stall(30, 6, 9, 1);
        x.stall(40, 0, 5, 1);
        x.stall(50, 0, 5, 1);
        x.stall(60, 0, 5, 1);
        x.plug(0, 0);
        x.plug(1, 1);
        x.plug(2, 2);
        x.plug(3, 9);
        x.shed(2);
        Check.same("carries", 20, x.breaker(0, 3));
        Check.same("would carry", 50, x.breaker(0, 4));
        x.over(0);
        Check.same("carries", 0, x.breaker(0, 3));
        Check.same("would carry", 30, x.breaker(0, 4));
        Check.same("the reserve carries", 70, x.breaker(3, 3));
        Check.same("the reserve would carry", 70, x.breaker(3, 4));
        x.bound(3, 10);
        x.pass(2);
        Check.same("the reserve tripped", 0, x.breaker(3, 1));
        Check.same("it carries nothing", 0, x.breaker(3, 3));
        Check.same("it would carry", 70, x.breaker(3, 4));
        Check.same("trips", 1, x.breaker(3, 5));
        Check.same("through", 140, x.breaker(3, 6));
        x.over(0);
        Check.same("what went through stays", 140, x.breaker(3, 6));
        Check.same("nothing went through 0", 0, x.breaker(0, 6));
    }

    static void promise19Refuses() {
        MarketSockets x = new MarketSockets();
        Check.refusesArgument("breaker 4", x, () -> x.breaker(4, 0));
        Check.refusesArgument("breaker -1", x, () -> x.breaker(-1, 0));
        Check.refusesArgument("what 7", x, () -> x.breaker(0, 7));
        Check.refusesArgument("what -1", x, () -> x.breaker(3, -1));
    }

    static void promise20TellsSockets() {
        MarketSockets x = new MarketSockets();
        for (int socket = 0; socket < 12; socket++) {
            Check.same("breaker of " + socket, socket / 3, x.socket(socket, 0));
            Check.same("stall at " + socket, -1, x.socket(socket, 1));
        }
        x.stall(1, 0, 0, 1);
        x.stall(1, 0, 0, 1);
        x.plug(1, 7);
        x.over(7);
        Check.same("breaker", 3, x.socket(7, 0));
        Check.same("stall", 1, x.socket(7, 1));
        Check.refusesArgument("socket 12", x, () -> x.socket(12, 0));
        Check.refusesArgument("socket -1", x, () -> x.socket(-1, 1));
        Check.refusesArgument("what 2", x, () -> x.socket(0, 2));
        Check.refusesArgument("what -1", x, () -> x.socket(0, -1));
    }

    static void promise21Counts() {
        MarketSockets x = new MarketSockets();
        x.set(2, 5);
        Check.open(x, "s3@0-23*1;s7@0-23*1;s300@0-23*1;s5@9-9*1");
        Check.open(x, "p0=0;p1=3;p2=9;p3=4");
        x.pass(3);
        int[] due = {3, 4, 4, 2, 3, 330, 330, 1, 2, 164, 0, 4};
        for (int what = 0; what < 12; what++) {
            Check.same("count " + what, due[what], x.count(what));
        }
        Check.same("fee of 0", 4, x.stallOf(0, 9));
        Check.same("fee of 1", 10, x.stallOf(1, 9));
        Check.same("fee of 2", 150, x.stallOf(2, 9));
        x.pull(3);
        x.set(1, 1);
        x.bound(0, 10);
        x.over(3);
        x.reset(3);
        x.pass(1);
        int[] then = {4, 4, 3, 2, 4, 340, 340, 1, 3, 170, 1, 6};
        for (int what = 0; what < 12; what++) {
            Check.same("count " + what + " then", then[what], x.count(what));
        }
        Check.refusesArgument("what 12", x, () -> x.count(12));
        Check.refusesArgument("what -1", x, () -> x.count(-1));
    }

    static void promise22TellsSettings() {
        MarketSockets x = new MarketSockets();
        x.set(0, 9);
        x.set(1, 1);
        x.set(2, 99);
        Check.same("setting 0", 9, x.setting(0));
        Check.same("setting 1", 1, x.setting(1));
        Check.same("setting 2", 99, x.setting(2));
        Check.refusesIndex("setting 3", x, () -> x.setting(3));
        Check.refusesIndex("setting -1", x, () -> x.setting(-1));
    }
}
