/**
 * Sockets of a night market: stalls that draw their loads by hours, sockets on breakers that trip when
 * they carry too much, and what would be if something was done.
 *
 * The document of this class numbers its promises; the README tells where it is.
 */
public final class MarketSockets {
    /** There is nothing to return. */
    public static final int NONE = -1;

    private static final int STALLS = 10;
    private static final int MOST_LOAD = 500;
    private static final int MOST_RANK = 9;

    private static final int BREAKERS = 4;
    private static final int RESERVE = 3;
    private static final int FIRST_BOUND = 200;
    private static final int LEAST_BOUND = 10;
    private static final int MOST_BOUND = 999;
    private static final int GREATEST_BIT_OF_A_BOUND = 512;
    private static final int MOST_HEAT = 9;

    private static final int SOCKETS = 12;
    private static final int SOCKETS_OF_A_BREAKER = 3;
    private static final int SOCKETS_WITH_A_SWITCH = 9;

    private static final int DAY = 24;
    private static final int MOST_HOURS = 48;
    private static final int LAST_HOUR = 9999;
    private static final int HOURS_TO_A_TRIP = 96;
    private static final int HOURS_OF_A_BOUND = 48;

    private static final int SETTINGS = 3;
    private static final int COOLING = 0;
    private static final int SHEDS_BY_RANK = 1;
    private static final int FEE = 2;
    private static final int[] FIRST_VALUES = {2, 0, 3};
    private static final int[] LEAST_VALUES = {1, 0, 1};
    private static final int[] MOST_VALUES = {9, 1, 99};

    private static final int DRAWS = 0;
    private static final int WANTS_NOTHING = 1;
    private static final int AT_NO_SOCKET = 2;
    private static final int BREAKER_TRIPPED = 3;
    private static final int IS_SHED = 4;

    private static final int BUFFER = 60;
    private static final int FIRST_SIGN = 33;
    private static final int LAST_SIGN = 126;

    private static final int SLOTS = 2;
    private static final int SAVED_STATES = 6;

    private static final int STALL_LOOKS = 10;
    private static final int BREAKER_LOOKS = 7;
    private static final int SOCKET_LOOKS = 2;
    private static final int COUNTS = 12;
    private static final int IF_PLUGGED_LOOKS = 3;

    private static final long DIGEST_START = 3089L;
    private static final int DIGEST_SOCKET = 10;
    private static final int DIGEST_HOURS = 12;

    private final Market market;
    /** A copy of the market on which it is tried what would be; made once, so that no call makes one. */
    private final Market trial;
    private final Market[] slots;
    private final boolean[] hasSnapshot;
    private final History history;
    private final PlanText plan;

    /** Promise 1. */
    public MarketSockets() {
        market = new Market();
        trial = new Market();
        slots = new Market[SLOTS];
        for (int slot = 0; slot < SLOTS; slot++) {
            slots[slot] = new Market();
        }
        hasSnapshot = new boolean[SLOTS];
        history = new History();
        plan = new PlanText();
    }

    // ---- stalls

    /** Promise 2: adds a stall; returns its number. */
    public int stall(int load, int from, int to, int rank) throws IllegalArgumentException, IllegalStateException {
        if (load < 1 || load > MOST_LOAD || rank < 1 || rank > MOST_RANK) {
            throw new IllegalArgumentException("a load is 1 to 500, a rank 1 to 9");
        }
        if (from < 0 || from >= DAY || to < 0 || to >= DAY) {
            throw new IllegalArgumentException("an hour of the day is 0 to 23");
        }
        if (market.isFull()) {
            throw new IllegalStateException("there are 10 stalls");
        }
        history.save(market);
        return market.add(load, from, to, rank);
    }

    /** Promise 3: plugs a stall in; returns the socket where it was. */
    public int plug(int stall, int socket)
            throws IndexOutOfBoundsException, IllegalArgumentException, IllegalStateException {
        checkStall(stall);
        checkArgument(socket, 0, SOCKETS - 1);
        if (market.stallAt(socket) != NONE) {
            throw new IllegalStateException("a stall is at this socket");
        }
        history.save(market);
        return market.move(stall, socket);
    }

    /** Promise 4: pulls a stall out; returns the socket where it was. */
    public int pull(int stall) throws IndexOutOfBoundsException, IllegalStateException {
        checkStall(stall);
        if (market.stalls[stall].socket == NONE) {
            throw new IllegalStateException("the stall is at no socket");
        }
        history.save(market);
        return market.move(stall, NONE);
    }

    /** Promise 5: sheds a stall or lets it draw again; returns 1 if it is shed then. */
    public int shed(int stall) throws IndexOutOfBoundsException {
        checkStall(stall);
        history.save(market);
        Stall one = market.stalls[stall];
        one.isShed = !one.isShed;
        return one.isShed ? 1 : 0;
    }

    // ---- breakers, hours

    /** Promise 6: changes the bound of a breaker; returns the previous one. */
    public int bound(int breaker, int bound) throws IllegalArgumentException {
        checkArgument(breaker, 0, BREAKERS - 1);
        checkArgument(bound, LEAST_BOUND, MOST_BOUND);
        history.save(market);
        Breaker one = market.breakers[breaker];
        int previous = one.bound;
        one.bound = bound;
        return previous;
    }

    /** Promise 7: puts a tripped breaker on again; returns how many stalls draw from it then. */
    public int reset(int breaker) throws IllegalArgumentException, IllegalStateException {
        checkArgument(breaker, 0, BREAKERS - 1);
        if (market.breakers[breaker].isOn) {
            throw new IllegalStateException("the breaker has not tripped");
        }
        history.save(market);
        market.breakers[breaker].putOn();
        return market.drawersOn(breaker);
    }

    /** Promise 8: switches a socket over to the reserve, or back; returns its breaker then. */
    public int over(int socket) throws IllegalArgumentException {
        checkArgument(socket, 0, SOCKETS_WITH_A_SWITCH - 1);
        history.save(market);
        market.isOver[socket] = !market.isOver[socket];
        return market.breakerOf(socket);
    }

    /** Promise 9: lets hours go by; returns how often a breaker trips in them. */
    public int pass(int hours) throws IllegalArgumentException, IllegalStateException {
        checkArgument(hours, 1, MOST_HOURS);
        if (!market.hasRoomFor(hours)) {
            throw new IllegalStateException("the hour would be above 9999");
        }
        history.save(market);
        int before = market.trips();
        market.goHours(hours);
        return market.trips() - before;
    }

    /** Promise 10: changes a setting; returns the previous value. */
    public int set(int setting, int value) throws IndexOutOfBoundsException, IllegalArgumentException {
        checkSetting(setting);
        checkArgument(value, LEAST_VALUES[setting], MOST_VALUES[setting]);
        history.save(market);
        int previous = market.settings[setting];
        market.settings[setting] = value;
        return previous;
    }

    // ---- texts, snapshots

    /** Promise 11: appends a character to the buffer; returns its new length. */
    public int append(int code) throws IllegalArgumentException, IllegalStateException {
        checkArgument(code, FIRST_SIGN, LAST_SIGN);
        if (plan.length >= BUFFER) {
            throw new IllegalStateException("the buffer has 60 characters");
        }
        plan.signs[plan.length] = (char) code;
        plan.length++;
        return plan.length;
    }

    /** Promise 12: clears the buffer; returns the length that it had. */
    public int clearBuffer() {
        int previous = plan.length;
        plan.length = 0;
        return previous;
    }

    /** Promise 13: the index of the first syntax error, the length of the buffer without one. */
    public int firstError() {
        plan.readWhole();
        return plan.at;
    }

    /** Promise 14: does the orders in the buffer and clears it; returns how many are done. */
    public int open() throws IllegalArgumentException {
        if (!plan.readWhole()) {
            throw new IllegalArgumentException("the buffer does not tell a plan");
        }
        history.save(market);
        int done = doOrders();
        plan.length = 0;
        return done;
    }

    /** Promise 15: takes a snapshot; returns the hour. */
    public int keep(int slot) throws IllegalArgumentException {
        checkArgument(slot, 0, SLOTS - 1);
        slots[slot].copyFrom(market);
        hasSnapshot[slot] = true;
        return market.hour;
    }

    /** Promise 16: goes back to a snapshot; returns the hour then. */
    public int goBack(int slot) throws IllegalArgumentException, IllegalStateException {
        checkArgument(slot, 0, SLOTS - 1);
        if (!hasSnapshot[slot]) {
            throw new IllegalStateException("there is no snapshot in the slot");
        }
        history.save(market);
        market.copyFrom(slots[slot]);
        return market.hour;
    }

    /** Promise 17: restores the latest saved state; returns how many are left. */
    public int undo() throws IllegalStateException {
        if (history.size == 0) {
            throw new IllegalStateException("there is no saved state");
        }
        history.restoreTo(market);
        return history.size;
    }

    // ---- looks; nothing is changed

    /** Promise 18: a property of a stall. */
    public int stallOf(int stall, int what) throws IndexOutOfBoundsException, IllegalArgumentException {
        checkStall(stall);
        checkArgument(what, 0, STALL_LOOKS - 1);
        Stall one = market.stalls[stall];
        switch (what) {
            case 0: return one.load;
            case 1: return one.from;
            case 2: return one.to;
            case 3: return one.rank;
            case 4: return one.socket;
            case 5: return one.isShed ? 1 : 0;
            case 6: return one.meter;
            case 7: return one.darkHours;
            case 8: return market.reasonOf(one);
            default: return market.feeOf(one);
        }
    }

    /** Promise 19: a property of a breaker. */
    public int breaker(int breaker, int what) throws IllegalArgumentException {
        checkArgument(breaker, 0, BREAKERS - 1);
        checkArgument(what, 0, BREAKER_LOOKS - 1);
        Breaker one = market.breakers[breaker];
        switch (what) {
            case 0: return one.bound;
            case 1: return one.isOn ? 1 : 0;
            case 2: return one.heat;
            case 3: return market.loadOn(breaker);
            case 4: return market.loadPluggedInto(breaker);
            case 5: return one.trips;
            default: return one.through;
        }
    }

    /** Promise 20: a property of a socket. */
    public int socket(int socket, int what) throws IllegalArgumentException {
        checkArgument(socket, 0, SOCKETS - 1);
        checkArgument(what, 0, SOCKET_LOOKS - 1);
        return what == 0 ? market.breakerOf(socket) : market.stallAt(socket);
    }

    /** Promise 21: a number of the whole market. */
    public int count(int what) throws IllegalArgumentException {
        checkArgument(what, 0, COUNTS - 1);
        switch (what) {
            case 0: return market.hour;
            case 1: return market.stallCount;
            case 2: return market.pluggedStalls();
            case 3: return market.drawingStalls();
            case 4: return market.breakersOn();
            case 5: return market.meters();
            case 6: return market.through();
            case 7: return market.trips();
            case 8: return market.darkHours();
            case 9: return market.fees();
            case 10: return market.shedByRank;
            default: return history.size;
        }
    }

    /** Promise 22: the value of a setting. */
    public int setting(int setting) throws IndexOutOfBoundsException {
        checkSetting(setting);
        return market.settings[setting];
    }

    // ---- what would be; nothing is changed, and the limit of hours does not matter

    /** Promise 23: what hours would bring if a stall was at a socket. */
    public int ifPlugged(int stall, int socket, int hours, int what)
            throws IndexOutOfBoundsException, IllegalArgumentException {
        checkStall(stall);
        checkArgument(socket, 0, SOCKETS - 1);
        checkArgument(hours, 1, MOST_HOURS);
        checkArgument(what, 0, IF_PLUGGED_LOOKS - 1);
        if (isTakenFor(stall, socket)) {
            return NONE;
        }
        tryAt(stall, socket, hours);
        switch (what) {
            case 0: return trial.trips() - market.trips();
            case 1: return trial.darkHours() - market.darkHours();
            default: return trial.stalls[stall].meter - market.stalls[stall].meter;
        }
    }

    /** Promise 24: in how many hours a breaker has tripped. */
    public int tripsIn(int breaker) throws IllegalArgumentException {
        checkArgument(breaker, 0, BREAKERS - 1);
        trial.copyFrom(market);
        for (int hours = 0; hours <= HOURS_TO_A_TRIP; hours++) {
            if (!trial.breakers[breaker].isOn) {
                return hours;
            }
            trial.goOneHour();
        }
        return NONE;
    }

    /** Promise 25: the socket with the fewest dark hours, then the fewest trips, within a day. */
    public int bestSocket(int stall) throws IndexOutOfBoundsException {
        checkStall(stall);
        int best = NONE;
        int fewestDarkHours = 0;
        int fewestTrips = 0;
        int triedBreakers = 0;
        for (int socket = 0; socket < SOCKETS; socket++) {
            int bit = 1 << market.breakerOf(socket);
            // The sockets of one breaker all bring the same, so the lowest free one speaks for them.
            if (isTakenFor(stall, socket) || (triedBreakers & bit) != 0) {
                continue;
            }
            triedBreakers |= bit;
            tryAt(stall, socket, DAY);
            int darkHours = trial.darkHours();
            int trips = trial.trips();
            if (best == NONE || darkHours < fewestDarkHours
                    || (darkHours == fewestDarkHours && trips < fewestTrips)) {
                best = socket;
                fewestDarkHours = darkHours;
                fewestTrips = trips;
            }
        }
        return best;
    }

    /** Promise 26: the least bound with which a breaker would not trip in two days. */
    public int leastBound(int breaker) throws IllegalArgumentException {
        checkArgument(breaker, 0, BREAKERS - 1);
        int tripping = LEAST_BOUND - 1;
        // The greatest bound with which it trips is found bit by bit: a greater bound never makes it hotter.
        for (int step = GREATEST_BIT_OF_A_BOUND; step > 0; step /= 2) {
            if (tripping + step <= MOST_BOUND && wouldTripWith(breaker, tripping + step)) {
                tripping += step;
            }
        }
        return tripping == MOST_BOUND ? NONE : tripping + 1;
    }

    /** Promise 27: the hours in which stalls drew, divided by those in which they wanted to. */
    public double servedShare() {
        int wanted = market.servedHours + market.darkHours();
        return wanted == 0 ? 1.0 : (double) market.servedHours / (double) wanted;
    }

    /** Promise 28: a hash of the whole state. */
    public long digest() {
        long hash = DIGEST_START;
        for (int what = 0; what < COUNTS; what++) {
            hash = mix(hash, count(what));
        }
        for (int setting = 0; setting < SETTINGS; setting++) {
            hash = mix(hash, setting(setting));
        }
        for (int stall = 0; stall < market.stallCount; stall++) {
            for (int what = 0; what < STALL_LOOKS; what++) {
                hash = mix(hash, stallOf(stall, what));
            }
            for (int what = 0; what < IF_PLUGGED_LOOKS; what++) {
                hash = mix(hash, ifPlugged(stall, DIGEST_SOCKET, DIGEST_HOURS, what));
            }
            hash = mix(hash, bestSocket(stall));
        }
        for (int breaker = 0; breaker < BREAKERS; breaker++) {
            for (int what = 0; what < BREAKER_LOOKS; what++) {
                hash = mix(hash, breaker(breaker, what));
            }
            hash = mix(hash, tripsIn(breaker));
        }
        for (int socket = 0; socket < SOCKETS; socket++) {
            for (int what = 0; what < SOCKET_LOOKS; what++) {
                hash = mix(hash, socket(socket, what));
            }
        }
        hash = mix(hash, leastBound(0));
        hash = mix(hash, bitsOf(servedShare()));
        for (int slot = 0; slot < SLOTS; slot++) {
            hash = mix(hash, hasSnapshot[slot] ? 1 : 0);
        }
        return mixBuffer(hash);
    }

    // ---- checks

    private void checkStall(int stall) {
        if (stall < 0 || stall >= market.stallCount) {
            throw new IndexOutOfBoundsException("there is no such stall");
        }
    }

    private static void checkSetting(int setting) {
        if (setting < 0 || setting >= SETTINGS) {
            throw new IndexOutOfBoundsException("there is no such setting");
        }
    }

    private static void checkArgument(int value, int least, int most) {
        if (value < least || value > most) {
            throw new IllegalArgumentException("an argument is out of range");
        }
    }

    // ---- the orders of a plan

    private int doOrders() {
        plan.at = 0;
        for (int done = 0; done < BUFFER; done++) {
            if (!plan.readOrder() || !doOrder()) {
                return done;
            }
            plan.readSign(';');
        }
        return BUFFER;
    }

    /** Does the order that was read last; false, with nothing done, if its method would throw an exception. */
    private boolean doOrder() {
        int first = plan.numbers[0];
        int second = plan.numbers[1];
        if (plan.kind == 's') {
            if (market.isFull()) {
                return false;
            }
            market.add(first, second, plan.numbers[2], plan.numbers[3]);
        } else if (plan.kind == 'p') {
            if (first >= market.stallCount || market.stallAt(second) != NONE) {
                return false;
            }
            market.move(first, second);
        } else {
            if (!market.hasRoomFor(first)) {
                return false;
            }
            market.goHours(first);
        }
        return true;
    }

    // ---- trials

    private boolean isTakenFor(int stall, int socket) {
        int there = market.stallAt(socket);
        return there != NONE && there != stall;
    }

    private void tryAt(int stall, int socket, int hours) {
        trial.copyFrom(market);
        trial.move(stall, socket);
        trial.goHours(hours);
    }

    private boolean wouldTripWith(int breaker, int bound) {
        trial.copyFrom(market);
        Breaker one = trial.breakers[breaker];
        one.putOn();
        one.bound = bound;
        for (int hours = 0; hours < HOURS_OF_A_BOUND && one.isOn; hours++) {
            trial.goOneHour();
        }
        return !one.isOn;
    }

    // ---- the hash

    private static long mix(long hash, long value) {
        return 31L * hash + value;
    }

    private long mixBuffer(long start) {
        long hash = mix(start, plan.length);
        for (int at = 0; at < plan.length; at++) {
            hash = mix(hash, plan.signs[at]);
        }
        return hash;
    }

    /**
     * The bits of a share, 0 to 1, as Double.doubleToLongBits tells them; LANGUAGE.md leaves that one out.
     * Each step here is exact: doubling, taking 1 off what is 1 to 2, and shifting the 52 bits that are left.
     */
    private static long bitsOf(double share) {
        if (share <= 0.0) {
            return 0L;
        }
        double scaled = share;
        long exponent = 1023L;
        while (scaled < 1.0 && exponent > 1L) {
            scaled = scaled * 2.0;
            exponent--;
        }
        long fraction = (long) ((scaled - 1.0) * 4503599627370496.0);
        return (exponent << 52) + fraction;
    }

    /** A stall: what it wants, where it is, and what has run on for it. */
    private static final class Stall {
        int load;
        int from;
        int to;
        int rank;
        int socket = NONE;
        boolean isShed;
        int meter;
        int darkHours;
        /** The breaker that it draws from in the hour that goes by, NONE if it does not; no part of the state. */
        int source = NONE;

        boolean wantsAt(int hourOfDay) {
            if (to < from) {
                return hourOfDay >= from || hourOfDay <= to;
            }
            return hourOfDay >= from && hourOfDay <= to;
        }

        /** Makes a new stall of this row, whatever it was before. */
        void begin(int itsLoad, int itsFrom, int itsTo, int itsRank) {
            load = itsLoad;
            from = itsFrom;
            to = itsTo;
            rank = itsRank;
            socket = NONE;
            isShed = false;
            meter = 0;
            darkHours = 0;
        }

        void copyFrom(Stall other) {
            load = other.load;
            from = other.from;
            to = other.to;
            rank = other.rank;
            socket = other.socket;
            isShed = other.isShed;
            meter = other.meter;
            darkHours = other.darkHours;
        }
    }

    /** A breaker: its bound, its heat, and what has gone through it. */
    private static final class Breaker {
        int bound = FIRST_BOUND;
        boolean isOn = true;
        int heat;
        int trips;
        int through;
        /** What it carries in the hour that goes by; no part of the state. */
        int carried;

        void putOn() {
            isOn = true;
            heat = 0;
        }

        boolean carriesTooMuch() {
            return isOn && carried > bound;
        }

        void heatOrCool(int cooling) {
            if (carriesTooMuch()) {
                heat += (carried - bound) / 10 + 1;
            } else {
                heat = Math.max(0, heat - cooling);
            }
        }

        void tripIfHot() {
            if (isOn && heat > MOST_HEAT) {
                isOn = false;
                trips++;
            }
        }

        void copyFrom(Breaker other) {
            bound = other.bound;
            isOn = other.isOn;
            heat = other.heat;
            trips = other.trips;
            through = other.through;
        }
    }

    /** All that snapshots and saved states hold, and how an hour goes by in it. */
    private static final class Market {
        final Stall[] stalls = new Stall[STALLS];
        int stallCount;
        final Breaker[] breakers = new Breaker[BREAKERS];
        final boolean[] isOver = new boolean[SOCKETS];
        final int[] settings = FIRST_VALUES.clone();
        int hour;
        int servedHours;
        int shedByRank;

        Market() {
            for (int stall = 0; stall < STALLS; stall++) {
                stalls[stall] = new Stall();
            }
            for (int breaker = 0; breaker < BREAKERS; breaker++) {
                breakers[breaker] = new Breaker();
            }
        }

        void copyFrom(Market other) {
            stallCount = other.stallCount;
            for (int stall = 0; stall < stallCount; stall++) {
                stalls[stall].copyFrom(other.stalls[stall]);
            }
            for (int breaker = 0; breaker < BREAKERS; breaker++) {
                breakers[breaker].copyFrom(other.breakers[breaker]);
            }
            for (int socket = 0; socket < SOCKETS; socket++) {
                isOver[socket] = other.isOver[socket];
            }
            System.arraycopy(other.settings, 0, settings, 0, SETTINGS);
            hour = other.hour;
            servedHours = other.servedHours;
            shedByRank = other.shedByRank;
        }

        // ---- what is done

        boolean isFull() {
            return stallCount >= STALLS;
        }

        int add(int load, int from, int to, int rank) {
            int stall = stallCount;
            stalls[stall].begin(load, from, to, rank);
            stallCount++;
            return stall;
        }

        /** Puts a stall at a socket, or at none; returns the socket where it was. */
        int move(int stall, int socket) {
            int previous = stalls[stall].socket;
            stalls[stall].socket = socket;
            return previous;
        }

        boolean hasRoomFor(int hours) {
            return hour + hours <= LAST_HOUR;
        }

        void goHours(int hours) {
            for (int gone = 0; gone < hours; gone++) {
                goOneHour();
            }
        }

        void goOneHour() {
            findSources();
            if (settings[SHEDS_BY_RANK] == 1) {
                for (int breaker = 0; breaker < BREAKERS; breaker++) {
                    shedTooMuch(breaker);
                }
            }
            for (int breaker = 0; breaker < BREAKERS; breaker++) {
                breakers[breaker].heatOrCool(settings[COOLING]);
            }
            // The sources were found ahead of the trips, as the meters have it.
            runMeters();
            for (int breaker = 0; breaker < BREAKERS; breaker++) {
                breakers[breaker].tripIfHot();
            }
            hour++;
        }

        private void findSources() {
            for (int breaker = 0; breaker < BREAKERS; breaker++) {
                breakers[breaker].carried = 0;
            }
            for (int stall = 0; stall < stallCount; stall++) {
                Stall one = stalls[stall];
                one.source = sourceOf(one);
                if (one.source != NONE) {
                    breakers[one.source].carried += one.load;
                }
            }
        }

        private void shedTooMuch(int breaker) {
            // Each turn sheds a stall that draws, so that there are no more turns than stalls.
            for (int turn = 0; turn < stallCount && breakers[breaker].carriesTooMuch(); turn++) {
                int stall = firstToShed(breaker);
                if (stall == NONE) {
                    return;
                }
                Stall one = stalls[stall];
                one.isShed = true;
                one.source = NONE;
                breakers[breaker].carried -= one.load;
                shedByRank++;
            }
        }

        private int firstToShed(int breaker) {
            int first = NONE;
            int rank = 0;
            int load = 0;
            for (int stall = 0; stall < stallCount; stall++) {
                Stall one = stalls[stall];
                if (one.source == breaker && (one.rank > rank || (one.rank == rank && one.load > load))) {
                    first = stall;
                    rank = one.rank;
                    load = one.load;
                }
            }
            return first;
        }

        private void runMeters() {
            int hourOfDay = hour % DAY;
            for (int stall = 0; stall < stallCount; stall++) {
                Stall one = stalls[stall];
                if (one.source != NONE) {
                    one.meter += one.load;
                    breakers[one.source].through += one.load;
                    servedHours++;
                } else if (one.wantsAt(hourOfDay)) {
                    one.darkHours++;
                }
            }
        }

        // ---- what is there

        /** The breaker of a socket, NONE for no socket. */
        int breakerOf(int socket) {
            if (socket < 0 || socket >= SOCKETS) {
                return NONE;
            }
            return isOver[socket] ? RESERVE : socket / SOCKETS_OF_A_BREAKER;
        }

        int stallAt(int socket) {
            for (int stall = 0; stall < stallCount; stall++) {
                if (stalls[stall].socket == socket) {
                    return stall;
                }
            }
            return NONE;
        }

        /** The breaker that a stall draws from in the hour of now, NONE if it does not draw. */
        int sourceOf(Stall one) {
            int breaker = breakerOf(one.socket);
            if (breaker == NONE || one.isShed || !breakers[breaker].isOn || !one.wantsAt(hour % DAY)) {
                return NONE;
            }
            return breaker;
        }

        int reasonOf(Stall one) {
            if (!one.wantsAt(hour % DAY)) {
                return WANTS_NOTHING;
            }
            int breaker = breakerOf(one.socket);
            if (breaker == NONE) {
                return AT_NO_SOCKET;
            }
            if (!breakers[breaker].isOn) {
                return BREAKER_TRIPPED;
            }
            return one.isShed ? IS_SHED : DRAWS;
        }

        int feeOf(Stall one) {
            return one.meter * settings[FEE] / 10;
        }

        /** What a breaker carries in the hour of now. */
        int loadOn(int breaker) {
            int load = 0;
            for (int stall = 0; stall < stallCount; stall++) {
                if (sourceOf(stalls[stall]) == breaker) {
                    load += stalls[stall].load;
                }
            }
            return load;
        }

        /** What a breaker would carry if it was on and each stall wanted its load. */
        int loadPluggedInto(int breaker) {
            int load = 0;
            for (int stall = 0; stall < stallCount; stall++) {
                Stall one = stalls[stall];
                if (!one.isShed && breakerOf(one.socket) == breaker) {
                    load += one.load;
                }
            }
            return load;
        }

        int drawersOn(int breaker) {
            int drawers = 0;
            for (int stall = 0; stall < stallCount; stall++) {
                if (sourceOf(stalls[stall]) == breaker) {
                    drawers++;
                }
            }
            return drawers;
        }

        // ---- sums

        int pluggedStalls() {
            int plugged = 0;
            for (int stall = 0; stall < stallCount; stall++) {
                if (stalls[stall].socket != NONE) {
                    plugged++;
                }
            }
            return plugged;
        }

        int drawingStalls() {
            int drawing = 0;
            for (int breaker = 0; breaker < BREAKERS; breaker++) {
                drawing += drawersOn(breaker);
            }
            return drawing;
        }

        int breakersOn() {
            int on = 0;
            for (int breaker = 0; breaker < BREAKERS; breaker++) {
                if (breakers[breaker].isOn) {
                    on++;
                }
            }
            return on;
        }

        int meters() {
            int sum = 0;
            for (int stall = 0; stall < stallCount; stall++) {
                sum += stalls[stall].meter;
            }
            return sum;
        }

        int through() {
            int sum = 0;
            for (int breaker = 0; breaker < BREAKERS; breaker++) {
                sum += breakers[breaker].through;
            }
            return sum;
        }

        int trips() {
            int sum = 0;
            for (int breaker = 0; breaker < BREAKERS; breaker++) {
                sum += breakers[breaker].trips;
            }
            return sum;
        }

        int darkHours() {
            int sum = 0;
            for (int stall = 0; stall < stallCount; stall++) {
                sum += stalls[stall].darkHours;
            }
            return sum;
        }

        int fees() {
            int sum = 0;
            for (int stall = 0; stall < stallCount; stall++) {
                sum += feeOf(stalls[stall]);
            }
            return sum;
        }
    }

    /** The saved states, in a ring of rows that are used again: the oldest one gives way to a new one. */
    private static final class History {
        final Market[] rows = new Market[SAVED_STATES];
        int next;
        int size;

        History() {
            for (int row = 0; row < SAVED_STATES; row++) {
                rows[row] = new Market();
            }
        }

        void save(Market market) {
            rows[next].copyFrom(market);
            next = (next + 1) % SAVED_STATES;
            size = Math.min(size + 1, SAVED_STATES);
        }

        void restoreTo(Market market) {
            next = (next + SAVED_STATES - 1) % SAVED_STATES;
            market.copyFrom(rows[next]);
            size--;
        }
    }

    /**
     * The buffer and how plans are read from it. After a reading that fails, at is the index of the first
     * syntax error, or the length if the text ends too early: each character is read only if some plan goes
     * on with it.
     */
    private static final class PlanText {
        final char[] signs = new char[BUFFER];
        int length;
        int at;
        /** The order that was read last: its first character and its numbers. */
        char kind;
        final int[] numbers = new int[4];

        /** Reads the whole buffer; true if it tells a plan. */
        boolean readWhole() {
            at = 0;
            // An order has a character at least, so that there are no more orders than characters.
            for (int orders = 0; orders < BUFFER; orders++) {
                if (!readOrder()) {
                    return false;
                }
                if (at >= length) {
                    return true;
                }
                if (!readSign(';')) {
                    return false;
                }
            }
            return false;
        }

        boolean readOrder() {
            if (readSign('s')) {
                kind = 's';
                return readNumber(0, 1, MOST_LOAD) && readSign('@') && readNumber(1, 0, DAY - 1)
                        && readSign('-') && readNumber(2, 0, DAY - 1)
                        && readSign('*') && readNumber(3, 1, MOST_RANK);
            }
            if (readSign('p')) {
                kind = 'p';
                return readNumber(0, 0, 9) && readSign('=') && readNumber(1, 0, SOCKETS - 1);
            }
            if (readSign('h')) {
                kind = 'h';
                return readNumber(0, 1, MOST_HOURS);
            }
            return false;
        }

        boolean readSign(char sign) {
            if (at >= length || signs[at] != sign) {
                return false;
            }
            at++;
            return true;
        }

        /** Reads as many digits as a number, least to most, can have; most is 9 at least. */
        private boolean readNumber(int place, int least, int most) {
            int value = digitAt(at);
            if (value < least) {
                return false;
            }
            at++;
            // A number that begins with 0 is 0, because there are no leading zeros.
            while (at < length && value > 0) {
                int digit = digitAt(at);
                if (digit == NONE || 10 * value + digit > most) {
                    break;
                }
                value = 10 * value + digit;
                at++;
            }
            numbers[place] = value;
            return true;
        }

        private int digitAt(int index) {
            if (index >= length || signs[index] < '0' || signs[index] > '9') {
                return NONE;
            }
            return signs[index] - '0';
        }
    }
}
