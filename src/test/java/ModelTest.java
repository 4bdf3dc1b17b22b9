import java.util.ArrayList;
import java.util.List;
import java.util.Random;

/** Runs of random calls, each answer compared with that of PlainModel; the seeds are fixed. */
public final class ModelTest {
    private static final int RUNS = 3000;
    private static final int CALLS = 512;
    private static final int[] EDGES = {Integer.MIN_VALUE, -100, -1, 0, 1, 2, 3, 4, 5, 6, 11, 12, 13, 15, 16, 99,
        100, 101, 199, 200, 201, 1000, Integer.MAX_VALUE};
    private static final String SIGNS = "fwmlt:,0123456789 F\u0660\uffff";

    private final Random random;
    private final SteamRations real = new SteamRations();
    private final PlainModel model = new PlainModel();
    private final List<String> calls = new ArrayList<>();
    private boolean differs = false;

    private ModelTest(long seed) {
        random = new Random(seed);
    }

    public static void main(String[] args) {
        int[] seen = new int[16];
        for (int seed = 0; seed < RUNS; seed++) {
            ModelTest test = new ModelTest(seed);
            test.runCalls(seed % 4);
            for (int what = 0; what < 16; what++) {
                seen[what] = Math.max(seen[what], test.model.count(what));
            }
            if (test.differs) {
                Expect.say("of run " + seed + ": " + test.calls);
                break;
            }
        }
        // Runs that never wash or spoil anything would compare little.
        for (int what = 0; what < 16; what++) {
            if (seen[what] == 0) {
                Expect.say("no run brings count(" + what + ") above 0");
            }
        }
        Expect.end();
    }

    /** Style 0 is all calls alike, 1 is few and long runs, 2 mostly texts, 3 short runs and many loads. */
    private void runCalls(int style) {
        while (calls.size() < CALLS && !differs) {
            int choice = random.nextInt(100);
            if (style == 2 && choice < 60) {
                text();
            } else if (style == 3 && choice < 70) {
                work();
            } else if (style == 1 && choice < 50) {
                same("run", real.run(200), model.run(200));
            } else {
                anyCall();
            }
        }
    }

    private void same(String call, int got, int want) {
        calls.add(call + " -> " + got);
        if (got != want) {
            differs = true;
            Expect.say(call + " answered " + got + ", the model " + want);
        }
    }

    private int pick(int least, int most) {
        if (random.nextInt(40) == 0) {
            return EDGES[random.nextInt(EDGES.length)];
        }
        return least + random.nextInt(most - least + 1);
    }

    private void work() {
        int a = pick(0, 3);
        int b = pick(0, 2);
        switch (random.nextInt(8)) {
            case 0:
                int boiler = pick(0, 1);
                int fire = pick(0, 5);
                same("setFire " + boiler + " " + fire, real.setFire(boiler, fire), model.setFire(boiler, fire));
                break;
            case 1:
                int filled = pick(0, 1);
                int water = pick(1, 60);
                same("fill " + filled + " " + water, real.fill(filled, water), model.fill(filled, water));
                break;
            case 2:
            case 3:
                same("start " + a + " " + b, real.start(a, b), model.start(a, b));
                break;
            case 4:
                same("queue " + b, real.queue(b), model.queue(b));
                break;
            default:
                int ticks = pick(1, 12);
                same("run " + ticks, real.run(ticks), model.run(ticks));
                break;
        }
    }

    private void anyCall() {
        switch (random.nextInt(20)) {
            case 0:
                int coal = pick(0, 200);
                same("setRation " + coal, real.setRation(coal), model.setRation(coal));
                break;
            case 1:
                int place = pick(0, 12);
                same("unqueue " + place, real.unqueue(place), model.unqueue(place));
                break;
            case 2:
                int out = pick(0, 3);
                same("takeOut " + out, real.takeOut(out), model.takeOut(out));
                break;
            case 3:
                int ticks = pick(1, 200);
                same("run " + ticks, real.run(ticks), model.run(ticks));
                break;
            case 4:
                same("undo", real.undo(), model.undo());
                break;
            case 5:
                same("keep", real.keep(), model.keep());
                break;
            case 6:
                if (random.nextInt(3) == 0) {
                    same("restore", real.restore(), model.restore());
                }
                break;
            case 7:
                text();
                break;
            case 8:
            case 9:
            case 10:
            case 11:
            case 12:
                work();
                break;
            default:
                ask();
                break;
        }
    }

    private void ask() {
        int a = pick(0, 3);
        int b = pick(0, 5);
        switch (random.nextInt(12)) {
            case 0:
                same("boiler " + a % 2 + " " + b, real.boiler(a % 2, b), model.boiler(a % 2, b));
                break;
            case 1:
                same("machine " + a + " " + b, real.machine(a, b), model.machine(a, b));
                break;
            case 2:
                int place = pick(-1, 12);
                same("line " + place, real.line(place), model.line(place));
                break;
            case 3:
                same("reason " + a, real.reason(a), model.reason(a));
                break;
            case 4:
                same("doneIn", real.doneIn(), model.doneIn());
                break;
            case 5:
                int second = pick(0, 5);
                int ticks = pick(1, 200);
                same("ifFires " + b + " " + second + " " + ticks + " " + a, real.ifFires(b, second, ticks, a),
                    model.ifFires(b, second, ticks, a));
                break;
            case 6:
                if (random.nextInt(4) == 0) {
                    int searched = pick(1, 100);
                    same("bestFires " + searched, real.bestFires(searched), model.bestFires(searched));
                }
                break;
            case 7:
                int what = pick(0, 1);
                same("stopped " + what, real.stopped(what), model.stopped(what));
                break;
            default:
                int counted = pick(0, 15);
                same("count " + counted, real.count(counted), model.count(counted));
                break;
        }
    }

    private void text() {
        if (random.nextInt(4) == 0) {
            same("clearText", real.clearText(), model.clearText());
            return;
        }
        if (random.nextInt(2) == 0) {
            same("perform", real.perform(), model.perform());
            return;
        }
        StringBuilder typed = new StringBuilder(model.count(15) == 0 ? "" : ",");
        typed.append(order());
        if (random.nextInt(8) == 0) {
            int place = random.nextInt(typed.length());
            typed.setCharAt(place, SIGNS.charAt(random.nextInt(SIGNS.length())));
        }
        for (int i = 0; i < typed.length() && calls.size() < CALLS; i++) {
            char sign = typed.charAt(i);
            same("type " + (int) sign, real.type(sign), model.type(sign));
        }
    }

    private String order() {
        int number = random.nextInt(10) == 0 ? random.nextInt(260) : 1 + random.nextInt(20);
        switch (random.nextInt(7)) {
            case 0:
                return "f" + random.nextInt(2) + ":" + random.nextInt(6);
            case 1:
                return "w" + random.nextInt(2) + ":" + number;
            case 2:
            case 3:
                return "m" + random.nextInt(4) + ":" + random.nextInt(3);
            case 4:
                return "l" + random.nextInt(3);
            default:
                return "t" + number;
        }
    }
}
