/** Laundries in the states that the tests begin with, and what a laundry tells. */
final class Laundries {
    static final int LOW = Integer.MIN_VALUE;
    static final int HIGH = Integer.MAX_VALUE;

    private Laundries() {
    }

    /** A new laundry after some ticks with these fires, which are out again then. */
    static SteamRations burnt(int first, int second, int ticks) {
        SteamRations x = new SteamRations();
        x.setFire(0, first);
        x.setFire(1, second);
        x.run(ticks);
        x.setFire(0, 0);
        x.setFire(1, 0);
        return x;
    }

    /** Pressure 11 in boiler 0 and no fire, 46 coal, 96 water, after 1 tick. */
    static SteamRations withPressure11() {
        return burnt(4, 0, 1);
    }

    /** Pressure 55 in boiler 0 and 40 in boiler 1, no fires, 15 coal. */
    static SteamRations withPressure95() {
        return burnt(4, 3, 5);
    }

    /** Pressure 70 in both boilers, no fires, no coal, after 5 ticks. */
    static SteamRations withPressure140() {
        return burnt(5, 5, 5);
    }

    /** Boiler 0 has just stopped for safety, with 20 coal left, after 6 ticks. */
    static SteamRations withStop() {
        SteamRations x = new SteamRations();
        x.setFire(0, 5);
        x.run(6);
        return x;
    }

    /** Boiler 0 has no water. */
    static SteamRations withoutWater() {
        SteamRations x = new SteamRations();
        for (int i = 0; i < 10; i++) {
            x.setFire(0, 5);
            x.run(2);
            x.setFire(0, 0);
            x.run(58);
        }
        Expect.due("water", x.boiler(0, 1), 0);
        return x;
    }

    /** Boiler 0 has 4 water and no pressure; there is plenty of coal. */
    static SteamRations withWater4() {
        SteamRations x = new SteamRations();
        x.setRation(200);
        x.run(120);
        for (int i = 0; i < 24; i++) {
            x.setFire(0, 4);
            x.run(1);
            x.setFire(0, 0);
            x.run(12);
        }
        Expect.due("water", x.boiler(0, 1), 4);
        return x;
    }

    /** A linen in machine 0 has waited once, with 8 ticks left; 96 water in boiler 0, pressure 3, no fire. */
    static SteamRations withWaits() {
        SteamRations x = withPressure11();
        x.setFire(0, 4);
        x.start(0, 2);
        x.setFire(0, 0);
        x.run(2);
        Expect.due("a load that waited", machine(x, 0), 2, 8, 1);
        return x;
    }

    /** Has something of all: a stopped boiler, loads that waited, a line, a full history, a snapshot, a stop. */
    static SteamRations withAll() {
        SteamRations x = withWaits();
        Expect.due("perform() that is stopped", performed(x, "l0,f1:0,m0:1"), -4);
        text(x, "l1,t3");
        x.keep();
        x.setRation(33);
        x.takeOut(0);
        x.setFire(1, 5);
        x.run(6);
        x.start(2, 0);
        x.run(1);
        x.queue(2);
        x.fill(0, 7);
        return x;
    }

    /** A line of 12 loads: wool, cotton, linen, wool and so on. */
    static SteamRations withFullLine() {
        SteamRations x = new SteamRations();
        for (int place = 0; place < 12; place++) {
            Expect.due("queue", x.queue(place % 3), place);
        }
        return x;
    }

    /** Tick 99800 of a laundry in which nothing happened but rations; by texts, for it has only 512 calls. */
    static SteamRations atTick99800() {
        SteamRations x = new SteamRations();
        text(x, "t200,".repeat(15) + "t200");
        for (int i = 0; i < 31; i++) {
            Expect.due("perform() of 3200 ticks", x.perform(), 16);
        }
        Expect.due("perform() of 600 ticks", performed(x, "t200,t200,t200"), 3);
        x.clearText();
        return x;
    }

    /** A line of 11 loads, fire 1 in boiler 0, 999 coal and 200 water: few have waited longer to be washed. */
    static SteamRations withSlowLine() {
        SteamRations x = new SteamRations();
        x.setRation(200);
        x.run(200);
        x.run(160);
        x.fill(0, 100);
        for (char kind : "01022222210".toCharArray()) {
            x.queue(kind - '0');
        }
        x.setFire(0, 1);
        return x;
    }

    static void text(SteamRations x, String text) {
        x.clearText();
        for (int i = 0; i < text.length(); i++) {
            Expect.due("type, sign " + i + " of " + text, x.type(text.charAt(i)), i + 1);
        }
    }

    static int performed(SteamRations x, String text) {
        text(x, text);
        return x.perform();
    }

    static int[] boiler(SteamRations x, int boiler) {
        int[] all = new int[5];
        for (int what = 0; what < 5; what++) {
            all[what] = x.boiler(boiler, what);
        }
        return all;
    }

    static int[] pressures(SteamRations x) {
        return new int[] {x.boiler(0, 2), x.boiler(1, 2)};
    }

    static int[] machine(SteamRations x, int machine) {
        return new int[] {x.machine(machine, 0), x.machine(machine, 1), x.machine(machine, 2)};
    }

    static int[] counts(SteamRations x) {
        int[] all = new int[16];
        for (int what = 0; what < 16; what++) {
            all[what] = x.count(what);
        }
        return all;
    }

    static int[] line(SteamRations x) {
        int[] all = new int[x.count(6)];
        for (int place = 0; place < all.length; place++) {
            all[place] = x.line(place);
        }
        return all;
    }

    static int[] stop(SteamRations x) {
        return new int[] {x.stopped(0), x.stopped(1)};
    }

    /** What a laundry tells of its state: all but the text, the history, the snapshot and the latest stop. */
    static int[] state(SteamRations x) {
        int[] all = new int[49];
        int next = 0;
        for (int what = 0; what < 14; what++) {
            all[next++] = x.count(what);
        }
        for (int boiler = 0; boiler < 2; boiler++) {
            for (int told : boiler(x, boiler)) {
                all[next++] = told;
            }
        }
        for (int machine = 0; machine < 4; machine++) {
            for (int told : machine(x, machine)) {
                all[next++] = told;
            }
        }
        for (int place = 0; place <= 12; place++) {
            all[next++] = x.line(place);
        }
        return all;
    }

    /** The state, and what else a laundry tells. */
    static int[] everything(SteamRations x) {
        int[] state = state(x);
        int[] all = java.util.Arrays.copyOf(state, state.length + 4);
        all[state.length] = x.count(14);
        all[state.length + 1] = x.count(15);
        all[state.length + 2] = x.stopped(0);
        all[state.length + 3] = x.stopped(1);
        return all;
    }
}
