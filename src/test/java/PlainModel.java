import java.util.ArrayDeque;
import java.util.ArrayList;
import java.util.List;
import java.util.regex.Matcher;
import java.util.regex.Pattern;

/**
 * The document told a second time, with other means (lists, copies, a pattern for the texts), so that a slip
 * in SteamRations is not likely to stand here, too.
 */
final class PlainModel {
    private static final Pattern ORDERS;

    static {
        String number = "(?:200|1[0-9][0-9]|[1-9][0-9]?)";
        String order = "(?:f[01]:[0-5]|w[01]:" + number + "|m[0-3]:[0-2]|l[0-2]|t" + number + ")";
        ORDERS = Pattern.compile(order + "(?:," + order + ")*");
    }

    private static final int[] TICKS = {4, 6, 9};
    private static final int[] STEAM = {2, 4, 6};
    private static final int[] WORTH = {3, 5, 9};

    /** What undo and restore bring back. */
    private static final class State {
        int[] fire = {0, 0};
        int[] water = {100, 100};
        int[] pressure = {0, 0};
        int[] stop = {0, 0};
        int[] stops = {0, 0};
        /** Of each machine: the kind, the ticks left, the waits; null if it is empty. */
        int[][] loads = new int[4][];
        List<Integer> line = new ArrayList<>();
        int time = 0;
        int coal = 50;
        int ration = 40;
        int burnt = 0;
        int came = 0;
        int started = 0;
        int washed = 0;
        int spoiled = 0;
        int out = 0;
        int worth = 0;
        int shortTicks = 0;

        State copy() {
            State s = new State();
            s.fire = fire.clone();
            s.water = water.clone();
            s.pressure = pressure.clone();
            s.stop = stop.clone();
            s.stops = stops.clone();
            for (int m = 0; m < 4; m++) {
                s.loads[m] = loads[m] == null ? null : loads[m].clone();
            }
            s.line = new ArrayList<>(line);
            s.time = time;
            s.coal = coal;
            s.ration = ration;
            s.burnt = burnt;
            s.came = came;
            s.started = started;
            s.washed = washed;
            s.spoiled = spoiled;
            s.out = out;
            s.worth = worth;
            s.shortTicks = shortTicks;
            return s;
        }

        void tick(boolean withLine) {
            time++;
            if (time % 60 == 0) {
                int old = coal;
                coal = Math.min(999, coal + ration);
                came += coal - old;
            }
            for (int b = 0; b < 2; b++) {
                if (stop[b] != 0) {
                    stop[b]--;
                } else if (fire[b] != 0 && coal >= fire[b] && water[b] >= fire[b]) {
                    coal -= fire[b];
                    burnt += fire[b];
                    water[b] -= fire[b];
                    pressure[b] += 3 * fire[b];
                } else {
                    fire[b] = 0;
                }
            }
            int need = 0;
            for (int[] load : loads) {
                need += load == null ? 0 : STEAM[load[0]];
            }
            boolean enough = pressure[0] + pressure[1] >= need;
            if (enough) {
                for (; need > 0; need--) {
                    pressure[pressure[1] > pressure[0] ? 1 : 0]--;
                }
            } else {
                shortTicks++;
            }
            for (int m = 0; m < 4; m++) {
                if (loads[m] == null) {
                    continue;
                }
                if (enough && --loads[m][1] == 0) {
                    washed++;
                    worth += WORTH[loads[m][0]];
                    loads[m] = null;
                } else if (!enough && ++loads[m][2] == 3) {
                    spoiled++;
                    loads[m] = null;
                }
            }
            for (int b = 0; b < 2; b++) {
                pressure[b] = Math.max(0, pressure[b] - 1);
            }
            for (int b = 0; b < 2; b++) {
                if (pressure[b] > 70) {
                    pressure[b] = 30;
                    fire[b] = 0;
                    stop[b] = 10;
                    stops[b]++;
                }
            }
            if (withLine && !line.isEmpty() && reason(line.get(0)) == 0) {
                put(lowest(), line.remove(0));
            }
        }

        int lowest() {
            for (int m = 0; m < 4; m++) {
                if (loads[m] == null) {
                    return m;
                }
            }
            return -1;
        }

        void put(int m, int kind) {
            loads[m] = new int[] {kind, TICKS[kind], 0};
            started++;
        }

        int reason(int kind) {
            if (lowest() < 0) {
                return 1;
            }
            if (pressure[0] + pressure[1] < 10) {
                return 2;
            }
            State s = copy();
            int m = s.lowest();
            s.put(m, kind);
            while (s.loads[m] != null) {
                s.tick(false);
                if (s.shortTicks > shortTicks) {
                    return 3;
                }
            }
            return 0;
        }

        int busy() {
            int busy = 0;
            for (int[] load : loads) {
                busy += load == null ? 0 : 1;
            }
            return busy;
        }
    }

    private State state = new State();
    private State kept = null;
    private final ArrayDeque<State> past = new ArrayDeque<>();
    private final StringBuilder text = new StringBuilder();
    private int[] stop = null;

    private int act(State old, int answer) {
        if (answer < 0) {
            state = old;
            return answer;
        }
        past.addLast(old);
        if (past.size() > 4) {
            past.removeFirst();
        }
        return answer;
    }

    int setFire(int b, int fire) {
        return act(state.copy(), fireSet(b, fire));
    }

    private int fireSet(int b, int fire) {
        if (b != 0 && b != 1) {
            return -1;
        }
        if (fire < 0 || fire > 5) {
            return -2;
        }
        if (state.stop[b] > 0) {
            return -4;
        }
        int old = state.fire[b];
        state.fire[b] = fire;
        return old == fire ? -5 : old;
    }

    int fill(int b, int water) {
        return act(state.copy(), filled(b, water));
    }

    private int filled(int b, int water) {
        if (b != 0 && b != 1) {
            return -1;
        }
        if (water < 1 || water > 200) {
            return -2;
        }
        if (state.water[b] > 200 - water) {
            return -3;
        }
        return state.water[b] += water;
    }

    int setRation(int coal) {
        if (coal < 0 || coal > 200) {
            return -2;
        }
        if (coal == state.ration) {
            return -5;
        }
        State old = state.copy();
        state.ration = coal;
        return act(old, old.ration);
    }

    int start(int m, int kind) {
        return act(state.copy(), startedIn(m, kind));
    }

    private int startedIn(int m, int kind) {
        if (m < 0 || m > 3 || kind < 0 || kind > 2) {
            return -1;
        }
        int reason = state.loads[m] != null ? 1 : state.reason(kind);
        if (reason > 0) {
            return -10 - reason;
        }
        state.put(m, kind);
        return TICKS[kind];
    }

    int queue(int kind) {
        return act(state.copy(), queued(kind));
    }

    private int queued(int kind) {
        if (kind < 0 || kind > 2) {
            return -1;
        }
        if (state.line.size() == 12) {
            return -3;
        }
        state.line.add(kind);
        return state.line.size() - 1;
    }

    int unqueue(int place) {
        if (place < 0 || place >= state.line.size()) {
            return -1;
        }
        State old = state.copy();
        return act(old, state.line.remove(place));
    }

    int takeOut(int m) {
        if (m < 0 || m > 3) {
            return -1;
        }
        if (state.loads[m] == null) {
            return -4;
        }
        State old = state.copy();
        state.loads[m] = null;
        state.out++;
        return act(old, old.loads[m][1]);
    }

    int run(int ticks) {
        return act(state.copy(), ran(ticks));
    }

    private int ran(int ticks) {
        if (ticks < 1 || ticks > 200) {
            return -2;
        }
        if (state.time + ticks > 99999) {
            return -3;
        }
        int old = state.washed;
        for (int i = 0; i < ticks; i++) {
            state.tick(true);
        }
        return state.washed - old;
    }

    int type(char character) {
        if (text.length() == 80) {
            return -3;
        }
        text.append(character);
        return text.length();
    }

    int clearText() {
        int length = text.length();
        text.setLength(0);
        return length;
    }

    /** The length of the longest beginning that could go on to be a list of orders; -1 if the text is one. */
    private int fault() {
        if (ORDERS.matcher(text).matches()) {
            return -1;
        }
        for (int i = 0; i < text.length(); i++) {
            Matcher matcher = ORDERS.matcher(text.substring(0, i + 1));
            if (!matcher.matches() && !matcher.hitEnd()) {
                return i;
            }
        }
        return text.length();
    }

    int perform() {
        int fault = fault();
        if (fault >= 0) {
            return -100 - fault;
        }
        State old = state.copy();
        String[] orders = text.toString().split(",");
        for (int i = 0; i < orders.length; i++) {
            int answer = obeyed(orders[i]);
            if (answer < 0 && answer != -5) {
                state = old;
                stop = new int[] {i, answer};
                return -4;
            }
        }
        return act(old, orders.length);
    }

    private int obeyed(String order) {
        String[] numbers = order.substring(1).split(":");
        int first = Integer.parseInt(numbers[0]);
        int last = Integer.parseInt(numbers[numbers.length - 1]);
        switch (order.charAt(0)) {
            case 'f':
                return fireSet(first, last);
            case 'w':
                return filled(first, last);
            case 'm':
                return startedIn(first, last);
            case 'l':
                return queued(last);
            default:
                return ran(last);
        }
    }

    int stopped(int what) {
        if (what != 0 && what != 1) {
            return -2;
        }
        return stop == null ? -5 : stop[what];
    }

    int undo() {
        if (past.isEmpty()) {
            return -5;
        }
        state = past.removeLast();
        return past.size();
    }

    int keep() {
        kept = state.copy();
        return state.time;
    }

    int restore() {
        if (kept == null) {
            return -5;
        }
        State old = state;
        state = kept.copy();
        return act(old, state.time);
    }

    int boiler(int b, int what) {
        if (b < 0 || b > 1) {
            return -1;
        }
        if (what < 0 || what > 4) {
            return -2;
        }
        return new int[][] {state.fire, state.water, state.pressure, state.stop, state.stops}[what][b];
    }

    int machine(int m, int what) {
        if (m < 0 || m > 3) {
            return -1;
        }
        if (what < 0 || what > 2) {
            return -2;
        }
        if (state.loads[m] == null) {
            return what == 0 ? -5 : 0;
        }
        return state.loads[m][what];
    }

    int line(int place) {
        if (place < 0) {
            return -2;
        }
        return place < state.line.size() ? state.line.get(place) : -5;
    }

    int reason(int kind) {
        return kind < 0 || kind > 2 ? -1 : state.reason(kind);
    }

    int doneIn() {
        State s = state.copy();
        for (int t = 0; t < 400; t++) {
            if (s.busy() == 0 && s.line.isEmpty()) {
                return t;
            }
            s.tick(true);
        }
        return s.busy() == 0 && s.line.isEmpty() ? 400 : -5;
    }

    private int[] brought(int first, int second, int ticks) {
        State s = state.copy();
        s.fire = new int[] {first, second};
        for (int t = 0; t < ticks; t++) {
            s.tick(true);
        }
        int stops = s.stops[0] + s.stops[1] - state.stops[0] - state.stops[1];
        return new int[] {s.washed - state.washed, s.spoiled - state.spoiled, s.burnt - state.burnt, stops};
    }

    int ifFires(int first, int second, int ticks, int what) {
        boolean fires = first >= 0 && first <= 5 && second >= 0 && second <= 5;
        if (!fires || ticks < 1 || ticks > 200 || what < 0 || what > 3) {
            return -2;
        }
        return brought(first, second, ticks)[what];
    }

    int bestFires(int ticks) {
        if (ticks < 1 || ticks > 100) {
            return -2;
        }
        long best = Long.MAX_VALUE;
        for (int fires = 0; fires < 36; fires++) {
            int[] brought = brought(fires / 6, fires % 6, ticks);
            long rank = (1000L - brought[0]) * 10_000_000L + brought[2] * 100L + fires / 6 * 10 + fires % 6;
            best = Math.min(best, rank);
        }
        return (int) (best % 100);
    }

    int count(int what) {
        int[] counts = {state.time, state.coal, state.burnt, state.came, state.ration, state.busy(),
            state.line.size(), state.started, state.washed, state.spoiled, state.out, state.worth,
            state.pressure[0] + state.pressure[1], state.shortTicks, past.size(), text.length()};
        return what < 0 || what > 15 ? -2 : counts[what];
    }
}
