import java.util.ArrayDeque;
import java.util.ArrayList;
import java.util.Arrays;
import java.util.Comparator;
import java.util.Deque;
import java.util.List;
import java.util.regex.Matcher;
import java.util.regex.Pattern;
import java.util.stream.IntStream;

/**
 * The document once more, written another way: states are copied whole, plans are matched by a regular
 * expression, and what is sought is sought by trying all. Only for arguments in range and calls that do not
 * throw: the Model answers null where the class has to throw IllegalStateException (or, of open, the other).
 */
final class Model {
    private static final String HOUR = "(?:1\\d|2[0-3]|\\d)";
    private static final String ORDER = "(?:s(?:500|[1-4]\\d\\d|[1-9]\\d|[1-9])@" + HOUR + "-" + HOUR
            + "\\*[1-9]|p\\d=(?:1[01]|\\d)|h(?:4[0-8]|[1-3]\\d|[1-9]))";
    private static final Pattern PLAN = Pattern.compile(ORDER + "(?:;" + ORDER + ")*");

    record Stall(int load, int from, int to, int rank, int socket, boolean shed, int meter, int dark) {
        boolean wants(int hour) {
            return Math.floorMod(hour - from, 24) <= Math.floorMod(to - from, 24);
        }

        Stall at(int where) {
            return new Stall(load, from, to, rank, where, shed, meter, dark);
        }

        Stall shedded(boolean is) {
            return new Stall(load, from, to, rank, socket, is, meter, dark);
        }

        Stall after(int metered, int darkened) {
            return new Stall(load, from, to, rank, socket, shed, meter + metered, dark + darkened);
        }
    }

    static final class State {
        List<Stall> stalls = new ArrayList<>();
        int[] bounds = {200, 200, 200, 200};
        boolean[] on = {true, true, true, true};
        int[] heat = new int[4];
        int[] trips = new int[4];
        int[] through = new int[4];
        boolean[] over = new boolean[12];
        int[] settings = {2, 0, 3};
        int hour;
        int drew;
        int wanted;
        int ranked;

        State copy() {
            State s = new State();
            s.stalls = new ArrayList<>(stalls);
            s.bounds = bounds.clone();
            s.on = on.clone();
            s.heat = heat.clone();
            s.trips = trips.clone();
            s.through = through.clone();
            s.over = over.clone();
            s.settings = settings.clone();
            s.hour = hour;
            s.drew = drew;
            s.wanted = wanted;
            s.ranked = ranked;
            return s;
        }

        int breakerAt(int socket) {
            return over[socket] ? 3 : socket / 3;
        }

        int stallAt(int socket) {
            return IntStream.range(0, stalls.size()).filter(k -> stalls.get(k).socket == socket).findFirst().orElse(-1);
        }

        int reason(Stall s) {
            if (!s.wants(hour)) {
                return 1;
            }
            if (s.socket == -1) {
                return 2;
            }
            return !on[breakerAt(s.socket)] ? 3 : s.shed ? 4 : 0;
        }

        boolean drawsOn(Stall s, int breaker) {
            return reason(s) == 0 && breakerAt(s.socket) == breaker;
        }

        int carried(int breaker) {
            return stalls.stream().filter(s -> drawsOn(s, breaker)).mapToInt(Stall::load).sum();
        }

        void oneHour() {
            for (int b = 0; b < 4; b++) {
                int breaker = b;
                while (on[b] && carried(b) > bounds[b] && settings[1] == 1) {
                    Stall victim = stalls.stream().filter(s -> drawsOn(s, breaker))
                            .sorted(Comparator.comparingInt((Stall s) -> -s.rank).thenComparingInt(s -> -s.load))
                            .findFirst().orElseThrow();
                    int at = IntStream.range(0, stalls.size()).filter(k -> stalls.get(k) == victim).findFirst()
                            .orElseThrow();
                    stalls.set(at, victim.shedded(true));
                    ranked++;
                }
            }
            for (int b = 0; b < 4; b++) {
                int more = carried(b) - bounds[b];
                heat[b] = on[b] && more > 0 ? heat[b] + more / 10 + 1 : Math.max(0, heat[b] - settings[0]);
            }
            for (int k = 0; k < stalls.size(); k++) {
                Stall s = stalls.get(k);
                int reason = reason(s);
                if (reason == 0) {
                    through[breakerAt(s.socket)] += s.load;
                    drew++;
                }
                wanted += reason == 1 ? 0 : 1;
                stalls.set(k, s.after(reason == 0 ? s.load : 0, reason > 1 ? 1 : 0));
            }
            for (int b = 0; b < 4; b++) {
                if (on[b] && heat[b] > 9) {
                    on[b] = false;
                    trips[b]++;
                }
            }
            hour++;
        }

        State after(int hours) {
            State s = copy();
            for (int k = 0; k < hours; k++) {
                s.oneHour();
            }
            return s;
        }

        State with(int stall, int socket) {
            State s = copy();
            s.stalls.set(stall, s.stalls.get(stall).at(socket));
            return s;
        }

        int trips() {
            return Arrays.stream(trips).sum();
        }

        int dark() {
            return stalls.stream().mapToInt(Stall::dark).sum();
        }

        int fee(Stall s) {
            return s.meter * settings[2] / 10;
        }

        int[] would(int stall, int socket, int hours) {
            if (stallAt(socket) != -1 && stallAt(socket) != stall) {
                return new int[] {-1, -1, -1};
            }
            State then = with(stall, socket).after(hours);
            return new int[] {then.trips() - trips(), then.dark() - dark(),
                then.stalls.get(stall).meter - stalls.get(stall).meter};
        }
    }

    State now = new State();
    String buffer = "";
    final State[] slots = new State[2];
    final Deque<State> saved = new ArrayDeque<>();

    void save() {
        saved.addLast(now.copy());
        if (saved.size() > 6) {
            saved.removeFirst();
        }
    }

    Integer stall(int load, int from, int to, int rank) {
        if (now.stalls.size() == 10) {
            return null;
        }
        save();
        now.stalls.add(new Stall(load, from, to, rank, -1, false, 0, 0));
        return now.stalls.size() - 1;
    }

    Integer plug(int stall, int socket) {
        if (now.stallAt(socket) != -1) {
            return null;
        }
        save();
        int was = now.stalls.get(stall).socket;
        now = now.with(stall, socket);
        return was;
    }

    Integer pull(int stall) {
        int was = now.stalls.get(stall).socket;
        if (was == -1) {
            return null;
        }
        save();
        now = now.with(stall, -1);
        return was;
    }

    Integer shed(int stall) {
        save();
        Stall s = now.stalls.get(stall);
        now.stalls.set(stall, s.shedded(!s.shed));
        return s.shed ? 0 : 1;
    }

    Integer bound(int breaker, int bound) {
        save();
        int was = now.bounds[breaker];
        now.bounds[breaker] = bound;
        return was;
    }

    Integer reset(int breaker) {
        if (now.on[breaker]) {
            return null;
        }
        save();
        now.on[breaker] = true;
        now.heat[breaker] = 0;
        return (int) now.stalls.stream().filter(s -> now.drawsOn(s, breaker)).count();
    }

    Integer over(int socket) {
        save();
        now.over[socket] = !now.over[socket];
        return now.breakerAt(socket);
    }

    Integer pass(int hours) {
        if (now.hour + hours > 9999) {
            return null;
        }
        save();
        int before = now.trips();
        now = now.after(hours);
        return now.trips() - before;
    }

    Integer set(int setting, int value) {
        save();
        int was = now.settings[setting];
        now.settings[setting] = value;
        return was;
    }

    Integer append(int code) {
        if (buffer.length() == 60) {
            return null;
        }
        buffer = buffer + (char) code;
        return buffer.length();
    }

    Integer clearBuffer() {
        int was = buffer.length();
        buffer = "";
        return was;
    }

    Integer firstError() {
        for (int k = 1; k <= buffer.length(); k++) {
            Matcher m = PLAN.matcher(buffer.substring(0, k));
            if (!m.matches() && !m.hitEnd()) {
                return k - 1;
            }
        }
        return buffer.length();
    }

    Integer open() {
        if (!PLAN.matcher(buffer).matches()) {
            return null;
        }
        save();
        List<State> keptSaved = new ArrayList<>(saved);
        int done = 0;
        for (String order : buffer.split(";")) {
            String[] n = order.substring(1).split("[@\\-*=]");
            int a = Integer.parseInt(n[0]);
            Integer answer;
            if (order.charAt(0) == 's') {
                answer = stall(a, Integer.parseInt(n[1]), Integer.parseInt(n[2]), Integer.parseInt(n[3]));
            } else if (order.charAt(0) == 'p') {
                answer = a < now.stalls.size() ? plug(a, Integer.parseInt(n[1])) : null;
            } else {
                answer = pass(a);
            }
            if (answer == null) {
                break;
            }
            done++;
        }
        saved.clear();
        saved.addAll(keptSaved);
        buffer = "";
        return done;
    }

    Integer keep(int slot) {
        slots[slot] = now.copy();
        return now.hour;
    }

    Integer goBack(int slot) {
        if (slots[slot] == null) {
            return null;
        }
        save();
        now = slots[slot].copy();
        return now.hour;
    }

    Integer undo() {
        if (saved.isEmpty()) {
            return null;
        }
        now = saved.removeLast();
        return saved.size();
    }

    int stallOf(int stall, int what) {
        Stall s = now.stalls.get(stall);
        return new int[] {s.load, s.from, s.to, s.rank, s.socket, s.shed ? 1 : 0, s.meter, s.dark, now.reason(s),
            now.fee(s)}[what];
    }

    int breaker(int b, int what) {
        int all = now.stalls.stream().filter(s -> s.socket != -1 && !s.shed && now.breakerAt(s.socket) == b)
                .mapToInt(Stall::load).sum();
        return new int[] {now.bounds[b], now.on[b] ? 1 : 0, now.heat[b], now.carried(b), all, now.trips[b],
            now.through[b]}[what];
    }

    int count(int what) {
        return new int[] {now.hour, now.stalls.size(),
            (int) now.stalls.stream().filter(s -> s.socket != -1).count(),
            (int) now.stalls.stream().filter(s -> now.reason(s) == 0).count(),
            (int) IntStream.range(0, 4).filter(b -> now.on[b]).count(),
            now.stalls.stream().mapToInt(Stall::meter).sum(),
            Arrays.stream(now.through).sum(), now.trips(), now.dark(),
            now.stalls.stream().mapToInt(now::fee).sum(), now.ranked, saved.size()}[what];
    }

    int tripsIn(int breaker) {
        State s = now.copy();
        for (int hours = 0; hours <= 96; hours++) {
            if (!s.on[breaker]) {
                return hours;
            }
            s.oneHour();
        }
        return -1;
    }

    int bestSocket(int stall) {
        return IntStream.range(0, 12).filter(k -> now.stallAt(k) == -1 || now.stallAt(k) == stall).boxed()
                .min(Comparator.comparingInt((Integer k) -> now.would(stall, k, 24)[1])
                        .thenComparingInt(k -> now.would(stall, k, 24)[0]).thenComparingInt(k -> k)).orElse(-1);
    }

    /** Tries each bound, from the least one on. */
    int leastBound(int breaker) {
        for (int bound = 10; bound <= 999; bound++) {
            State s = now.copy();
            s.on[breaker] = true;
            s.heat[breaker] = 0;
            s.bounds[breaker] = bound;
            for (int k = 0; k < 48 && s.on[breaker]; k++) {
                s.oneHour();
            }
            if (s.on[breaker]) {
                return bound;
            }
        }
        return -1;
    }

    double servedShare() {
        return now.wanted == 0 ? 1.0 : (double) now.drew / now.wanted;
    }

    long digest() {
        List<Long> values = new ArrayList<>();
        for (int what = 0; what < 12; what++) {
            values.add((long) count(what));
        }
        for (int setting = 0; setting < 3; setting++) {
            values.add((long) now.settings[setting]);
        }
        for (int k = 0; k < now.stalls.size(); k++) {
            for (int what = 0; what < 10; what++) {
                values.add((long) stallOf(k, what));
            }
            for (int value : now.would(k, 10, 12)) {
                values.add((long) value);
            }
            values.add((long) bestSocket(k));
        }
        for (int b = 0; b < 4; b++) {
            for (int what = 0; what < 7; what++) {
                values.add((long) breaker(b, what));
            }
            values.add((long) tripsIn(b));
        }
        for (int k = 0; k < 12; k++) {
            values.add((long) now.breakerAt(k));
            values.add((long) now.stallAt(k));
        }
        values.add((long) leastBound(0));
        values.add(Double.doubleToLongBits(servedShare()));
        for (State slot : slots) {
            values.add(slot == null ? 0L : 1L);
        }
        values.add((long) buffer.length());
        buffer.chars().forEach(c -> values.add((long) c));
        long hash = 3089;
        for (long value : values) {
            hash = 31 * hash + value;
        }
        return hash;
    }
}
