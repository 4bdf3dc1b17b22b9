/** For each promise of the document: ordinary calls, the edges that it names, and wrong arguments. */
public final class PromiseTest {
    private static final int LOW = Laundries.LOW;
    private static final int HIGH = Laundries.HIGH;

    public static void main(String[] args) {
        newObject();
        setFire();
        fill();
        setRation();
        start();
        reasons();
        queue();
        unqueue();
        takeOut();
        run();
        boilersInTicks();
        rationsInTicks();
        loadsInTicks();
        lineInTicks();
        type();
        clearText();
        faultsOfTexts();
        perform();
        stopsOfPerform();
        undo();
        undoOfEachAct();
        keepAndRestore();
        boiler();
        machine();
        line();
        doneIn();
        ifFires();
        bestFires();
        count();
        Expect.end();
    }

    private static void due(String call, long got, long want) {
        Expect.due(call, got, want);
    }

    private static void newObject() {
        SteamRations x = new SteamRations();
        SteamRations other = new SteamRations();
        other.setFire(1, 3);
        other.queue(1);
        other.run(60);
        other.type('f');
        other.keep();
        Expect.due("new, counts", Laundries.counts(x), 0, 50, 0, 0, 40, 0, 0, 0, 0, 0, 0, 0, 0, 0, 0, 0);
        for (int boiler = 0; boiler < 2; boiler++) {
            Expect.due("new, boiler", Laundries.boiler(x, boiler), 0, 100, 0, 0, 0);
        }
        for (int machine = 0; machine < 4; machine++) {
            Expect.due("new, machine", Laundries.machine(x, machine), -5, 0, 0);
        }
        due("new, line(0)", x.line(0), -5);
        due("new, doneIn()", x.doneIn(), 0);
        due("new, undo()", x.undo(), -5);
        due("new, restore()", x.restore(), -5);
        due("new, stopped(0)", x.stopped(0), -5);
        due("new, perform()", x.perform(), -100);
    }

    private static void setFire() {
        SteamRations x = new SteamRations();
        due("setFire(0, 5)", x.setFire(0, 5), 0);
        due("setFire(0, 3)", x.setFire(0, 3), 5);
        due("setFire(1, 1)", x.setFire(1, 1), 0);
        due("setFire(0, 3) again", x.setFire(0, 3), -5);
        due("setFire(0, 0)", x.setFire(0, 0), 3);
        due("setFire(0, 0) again", x.setFire(0, 0), -5);
        due("boiler(0, 0)", x.boiler(0, 0), 0);
        due("boiler(1, 0)", x.boiler(1, 0), 1);
        due("NONE records nothing", x.count(14), 4);
        due("setFire(2, 6)", x.setFire(2, 6), -1);
        due("setFire(-1, 0)", x.setFire(-1, 0), -1);
        due("setFire(LOW, 0)", x.setFire(LOW, 0), -1);
        due("setFire(HIGH, 0)", x.setFire(HIGH, 0), -1);
        due("setFire(0, -1)", x.setFire(0, -1), -2);
        due("setFire(1, 6)", x.setFire(1, 6), -2);
        due("setFire(1, HIGH)", x.setFire(1, HIGH), -2);
        due("errors change nothing", x.boiler(1, 0), 1);
        SteamRations y = Laundries.withStop();
        due("stopped, setFire(0, 6)", y.setFire(0, 6), -2);
        due("stopped, setFire(0, 0): the error goes ahead of NONE", y.setFire(0, 0), -4);
        due("stopped, setFire(0, 1)", y.setFire(0, 1), -4);
        due("the other one, setFire(1, 1)", y.setFire(1, 1), 0);
        y.setFire(1, 0);
        y.run(9);
        due("in the last tick of its stop, setFire(0, 1)", y.setFire(0, 1), -4);
        y.run(1);
        due("after its stop, setFire(0, 1)", y.setFire(0, 1), 0);
    }

    private static void fill() {
        SteamRations x = new SteamRations();
        due("fill(0, 1)", x.fill(0, 1), 101);
        due("fill(0, 100)", x.fill(0, 100), -3);
        due("fill(0, 99)", x.fill(0, 99), 200);
        due("fill(0, 1)", x.fill(0, 1), -3);
        due("fill(1, 200)", x.fill(1, 200), -3);
        due("boiler(0, 1)", x.boiler(0, 1), 200);
        due("boiler(1, 1)", x.boiler(1, 1), 100);
        due("fill(1, 0)", x.fill(1, 0), -2);
        due("fill(1, -1)", x.fill(1, -1), -2);
        due("fill(1, LOW)", x.fill(1, LOW), -2);
        due("fill(1, 201)", x.fill(1, 201), -2);
        due("fill(1, HIGH)", x.fill(1, HIGH), -2);
        due("fill(2, 0)", x.fill(2, 0), -1);
        due("fill(-1, 1)", x.fill(-1, 1), -1);
        due("two acts", x.count(14), 2);
        due("a boiler without water, fill(0, 200)", Laundries.withoutWater().fill(0, 200), 200);
    }

    private static void setRation() {
        SteamRations x = new SteamRations();
        due("setRation(40)", x.setRation(40), -5);
        due("setRation(200)", x.setRation(200), 40);
        due("setRation(0)", x.setRation(0), 200);
        due("setRation(0)", x.setRation(0), -5);
        due("setRation(-1)", x.setRation(-1), -2);
        due("setRation(201)", x.setRation(201), -2);
        due("setRation(LOW)", x.setRation(LOW), -2);
        due("count(4)", x.count(4), 0);
        due("count(14)", x.count(14), 2);
    }

    private static void start() {
        SteamRations x = Laundries.withPressure95();
        due("start(3, 0)", x.start(3, 0), 4);
        due("start(3, 0)", x.start(3, 0), -11);
        due("start(0, 1)", x.start(0, 1), 6);
        due("count(7)", x.count(7), 2);
        Expect.due("machine 3", Laundries.machine(x, 3), 0, 4, 0);
        Expect.due("machine 0", Laundries.machine(x, 0), 1, 6, 0);
        Expect.due("machine 1", Laundries.machine(x, 1), -5, 0, 0);
        due("start(4, 0)", x.start(4, 0), -1);
        due("start(-1, 0)", x.start(-1, 0), -1);
        due("start(1, 3)", x.start(1, 3), -1);
        due("start(1, -1)", x.start(1, -1), -1);
        due("start(3, 3)", x.start(3, 3), -1);
        due("start(HIGH, LOW)", x.start(HIGH, LOW), -1);
        SteamRations y = Laundries.withPressure95();
        due("start(2, 2)", y.start(2, 2), 9);
    }

    private static void reasons() {
        SteamRations x = Laundries.withPressure11();
        due("pressure 11, reason(0)", x.reason(0), 0);
        due("pressure 11, reason(1)", x.reason(1), 3);
        due("pressure 11, start(0, 1)", x.start(0, 1), -13);
        x.run(1);
        due("pressure 10, reason(0)", x.reason(0), 3);
        due("pressure 10, start(1, 0)", x.start(1, 0), -13);
        x.run(1);
        due("pressure 9, reason(0)", x.reason(0), 2);
        due("pressure 9, start(1, 0)", x.start(1, 0), -12);
        due("reason(3)", x.reason(3), -1);
        due("reason(-1)", x.reason(-1), -1);
        due("reason(LOW)", x.reason(LOW), -1);
        SteamRations full = Laundries.withPressure95();
        for (int machine = 0; machine < 4; machine++) {
            due("start of a wool", full.start(machine, 0), 4);
        }
        due("all machines full, reason(0)", full.reason(0), 1);
        due("all machines full, start(2, 0)", full.start(2, 0), -11);
        full.takeOut(3);
        due("one machine empty, reason(0)", full.reason(0), 0);
        due("a full one told, start(0, 0)", full.start(0, 0), -11);
        otherLoadsWouldWait();
        firesGoOutInTheTrial();
        boilersStopInTheTrial();
        rationsComeInTheTrial();
        theLineIsNoPartOfTheTrial();
    }

    /** Pressure 11, no fire: a second wool would let the first one wait, in the 3rd tick. */
    private static void otherLoadsWouldWait() {
        SteamRations x = Laundries.withPressure11();
        due("start(0, 0)", x.start(0, 0), 4);
        due("reason(0) of a second one", x.reason(0), 3);
        due("start(1, 0)", x.start(1, 0), -13);
        x.run(4);
        due("the first one is washed", x.count(8), 1);
        due("and has not waited", x.count(13), 0);
    }

    /** Pressure 66 in both boilers, with fires 4 and 2 coal: they go out in the next tick. */
    private static void firesGoOutInTheTrial() {
        SteamRations x = new SteamRations();
        x.setFire(0, 4);
        x.setFire(1, 4);
        x.run(6);
        due("coal left", x.count(1), 2);
        due("pressure", x.count(12), 132);
        due("start(0, 2)", x.start(0, 2), 9);
        due("126 of the steam are needed, start(1, 2)", x.start(1, 2), 9);
        due("more than there is, reason(2)", x.reason(2), 3);
        due("and the fires burn still", x.boiler(0, 0), 4);
    }

    /** Pressure 70 and fire 5 in boiler 0: it stops for safety in the next tick, with 30. */
    private static void boilersStopInTheTrial() {
        SteamRations x = new SteamRations();
        x.setFire(0, 5);
        x.run(5);
        due("pressure", x.count(12), 70);
        due("30 are enough for 5 ticks of cotton, reason(1)", x.reason(1), 0);
        due("30 are too few for 8 ticks of linen, reason(2)", x.reason(2), 3);
    }

    /** Pressure 16 in both boilers, fire 5 in boiler 0, no coal, at tick 59. */
    private static void rationsComeInTheTrial() {
        SteamRations x = new SteamRations();
        x.setFire(0, 5);
        x.setFire(1, 5);
        x.run(59);
        x.setFire(0, 5);
        due("coal", x.count(1), 0);
        due("pressure", x.count(12), 32);
        due("a ration comes, reason(2)", x.reason(2), 0);
        x.setRation(0);
        due("none comes, reason(2)", x.reason(2), 3);
    }

    /** Linen and cotton together need more than the pressure of 93, but the cotton is in the line. */
    private static void theLineIsNoPartOfTheTrial() {
        SteamRations x = Laundries.withPressure95();
        x.run(1);
        due("pressure", x.count(12), 93);
        x.queue(1);
        due("with cotton in the line, reason(2)", x.reason(2), 0);
        due("start(0, 2)", x.start(0, 2), 9);
        x.run(1);
        due("the cotton starts by itself", x.machine(1, 0), 1);
        x.run(8);
        due("and so the linen has to wait in the end", x.machine(0, 2), 1);
    }

    private static void queue() {
        SteamRations x = new SteamRations();
        for (int place = 0; place < 12; place++) {
            due("queue", x.queue(place % 3), place);
        }
        due("queue(0) of a 13th", x.queue(0), -3);
        due("queue(3)", x.queue(3), -1);
        due("queue(-1)", x.queue(-1), -1);
        due("queue(HIGH)", x.queue(HIGH), -1);
        Expect.due("line", Laundries.line(x), 0, 1, 2, 0, 1, 2, 0, 1, 2, 0, 1, 2);
        due("count(6)", x.count(6), 12);
        due("none is started without a tick", x.count(7), 0);
    }

    private static void unqueue() {
        SteamRations x = new SteamRations();
        due("unqueue(0) of none", x.unqueue(0), -1);
        for (int place = 0; place < 12; place++) {
            x.queue(place % 3);
        }
        due("unqueue(12)", x.unqueue(12), -1);
        due("unqueue(-1)", x.unqueue(-1), -1);
        due("unqueue(LOW)", x.unqueue(LOW), -1);
        due("unqueue(11)", x.unqueue(11), 2);
        due("unqueue(11)", x.unqueue(11), -1);
        due("unqueue(1)", x.unqueue(1), 1);
        Expect.due("line", Laundries.line(x), 0, 2, 0, 1, 2, 0, 1, 2, 0, 1);
        due("unqueue(0)", x.unqueue(0), 0);
        due("line(0)", x.line(0), 2);
        due("count(10)", x.count(10), 0);
    }

    private static void takeOut() {
        SteamRations x = Laundries.withPressure95();
        x.start(1, 2);
        x.run(2);
        due("takeOut(0)", x.takeOut(0), -4);
        due("takeOut(4)", x.takeOut(4), -1);
        due("takeOut(-1)", x.takeOut(-1), -1);
        due("takeOut(1)", x.takeOut(1), 7);
        due("takeOut(1)", x.takeOut(1), -4);
        Expect.due("machine 1", Laundries.machine(x, 1), -5, 0, 0);
        due("count(10)", x.count(10), 1);
        due("count(8)", x.count(8), 0);
        due("count(9)", x.count(9), 0);
        due("count(11)", x.count(11), 0);
        due("count(5)", x.count(5), 0);
    }

    private static void run() {
        SteamRations x = new SteamRations();
        due("run(0)", x.run(0), -2);
        due("run(-1)", x.run(-1), -2);
        due("run(201)", x.run(201), -2);
        due("run(HIGH)", x.run(HIGH), -2);
        due("run(LOW)", x.run(LOW), -2);
        due("count(14)", x.count(14), 0);
        due("run(1)", x.run(1), 0);
        due("count(0)", x.count(0), 1);
        SteamRations y = Laundries.withPressure95();
        y.start(0, 0);
        y.start(1, 0);
        y.start(2, 1);
        due("run(3)", y.run(3), 0);
        due("run(1)", y.run(1), 2);
        due("run(200)", y.run(200), 1);
        due("count(8)", y.count(8), 3);
        due("count(11)", y.count(11), 11);
        SteamRations z = new SteamRations();
        for (int i = 0; i < 499; i++) {
            z.run(200);
        }
        due("tick 99800, run(200)", z.run(200), -3);
        due("tick 99800, run(201)", z.run(201), -2);
        due("tick 99800, run(199)", z.run(199), 0);
        due("tick 99999, run(1)", z.run(1), -3);
        due("tick 99999, doneIn()", z.doneIn(), 0);
        due("tick 99999, ifFires", z.ifFires(1, 0, 5, 2), 5);
        due("tick 99999, count(0)", z.count(0), 99999);
    }

    private static void boilersInTicks() {
        SteamRations x = new SteamRations();
        x.setFire(0, 5);
        x.run(5);
        Expect.due("pressure 70 is safe", Laundries.boiler(x, 0), 5, 75, 70, 0, 0);
        x.run(1);
        Expect.due("pressure 84 is not", Laundries.boiler(x, 0), 0, 70, 30, 10, 1);
        due("coal", x.count(1), 20);
        due("burnt", x.count(2), 30);
        SteamRations justAbove = new SteamRations();
        justAbove.setFire(0, 5);
        justAbove.run(4);
        justAbove.setFire(0, 2);
        justAbove.run(3);
        Expect.due("pressure 71 is not safe", Laundries.boiler(justAbove, 0), 0, 74, 30, 10, 1);
        x.run(1);
        Expect.due("a tick of the stop", Laundries.boiler(x, 0), 0, 70, 29, 9, 1);
        x.run(9);
        Expect.due("the stop ends", Laundries.boiler(x, 0), 0, 70, 20, 0, 1);
        x.setFire(0, 5);
        x.setFire(1, 5);
        x.run(2);
        due("coal goes to both", x.count(1), 0);
        Expect.due("boiler 1", Laundries.boiler(x, 1), 5, 90, 28, 0, 0);
        x.run(1);
        Expect.due("fires go out", new int[] {x.boiler(0, 0), x.boiler(1, 0)}, 0, 0);
        SteamRations y = new SteamRations();
        y.setFire(0, 3);
        y.run(15);
        due("a stop of fire 3", y.boiler(0, 4), 1);
        due("coal left", y.count(1), 23);
        y.setFire(1, 5);
        y.run(4);
        due("coal left", y.count(1), 3);
        y.run(1);
        Expect.due("less coal than fire: it goes out, the coal stays",
            new int[] {y.count(1), y.boiler(1, 0), y.boiler(1, 2)}, 3, 0, 55);
        boilerZeroGoesAhead();
        waterRunsOut();
        steamOfStoppedBoilers();
    }

    private static void boilerZeroGoesAhead() {
        SteamRations x = new SteamRations();
        x.setRation(0);
        x.setFire(0, 5);
        x.run(6);
        x.run(10);
        x.setFire(1, 5);
        x.run(2);
        x.setFire(0, 5);
        due("coal left", x.count(1), 10);
        x.setFire(1, 4);
        x.run(1);
        due("coal left", x.count(1), 1);
        x.setFire(0, 1);
        x.setFire(1, 1);
        x.run(1);
        Expect.due("the last coal is for boiler 0", new int[] {x.boiler(0, 0), x.boiler(1, 0)}, 1, 0);
    }

    private static void waterRunsOut() {
        SteamRations x = new SteamRations();
        x.setRation(200);
        x.run(120);
        due("coal", x.count(1), 450);
        for (int i = 0; i < 24; i++) {
            x.setFire(0, 4);
            x.run(1);
            x.setFire(0, 0);
            x.run(12);
        }
        due("water", x.boiler(0, 1), 4);
        x.setFire(0, 5);
        int coal = x.count(1);
        x.run(1);
        Expect.due("less water than fire: it goes out",
            new int[] {x.boiler(0, 0), x.boiler(0, 1), x.count(1) - coal, x.boiler(0, 2)}, 0, 4, 0, 0);
        x.setFire(0, 4);
        x.run(1);
        Expect.due("as much water as fire: it burns",
            new int[] {x.boiler(0, 0), x.boiler(0, 1), x.boiler(0, 2)}, 4, 0, 11);
    }

    private static void steamOfStoppedBoilers() {
        SteamRations x = Laundries.withStop();
        due("the steam of a stopped boiler, start(0, 0)", x.start(0, 0), 4);
        x.run(1);
        Expect.due("can be taken", Laundries.boiler(x, 0), 0, 70, 27, 9, 1);
        SteamRations y = new SteamRations();
        y.setFire(0, 2);
        y.setFire(1, 2);
        y.run(3);
        due("two alike", y.boiler(0, 2) - y.boiler(1, 2), 0);
        y.setFire(0, 0);
        y.setFire(1, 0);
        y.start(0, 0);
        y.start(1, 0);
        y.run(1);
        Expect.due("taken from both in turn", new int[] {y.boiler(0, 2), y.boiler(1, 2)}, 12, 12);
        SteamRations z = new SteamRations();
        z.setFire(0, 4);
        z.setFire(1, 5);
        z.run(1);
        z.setFire(0, 0);
        z.setFire(1, 0);
        Expect.due("pressures", new int[] {z.boiler(0, 2), z.boiler(1, 2)}, 11, 14);
        due("start(0, 0)", z.start(0, 0), 4);
        z.run(1);
        Expect.due("taken from the greater one", new int[] {z.boiler(0, 2), z.boiler(1, 2)}, 10, 11);
        z.run(1);
        Expect.due("of both alike from 0", new int[] {z.boiler(0, 2), z.boiler(1, 2)}, 8, 9);
    }

    private static void rationsInTicks() {
        SteamRations x = new SteamRations();
        x.run(59);
        due("tick 59, coal", x.count(1), 50);
        x.run(1);
        due("tick 60, coal", x.count(1), 90);
        due("tick 60, came", x.count(3), 40);
        x.setRation(200);
        x.run(200);
        due("tick 260, coal", x.count(1), 690);
        x.run(40);
        due("tick 300, coal", x.count(1), 890);
        x.run(60);
        due("tick 360, coal", x.count(1), 999);
        due("tick 360, came", x.count(3), 949);
        x.run(60);
        due("tick 420, came", x.count(3), 949);
        x.setFire(0, 1);
        x.run(59);
        due("tick 479: the fire went out at a stop", x.count(2), 36);
        x.run(1);
        due("tick 480, came", x.count(3), 985);
        SteamRations y = new SteamRations();
        y.setFire(1, 5);
        y.setFire(0, 5);
        y.run(5);
        y.run(54);
        due("no coal", y.count(1), 0);
        y.setFire(0, 1);
        y.run(1);
        Expect.due("the ration comes ahead of the fires", new int[] {y.count(1), y.boiler(0, 0)}, 39, 1);
    }

    private static void loadsInTicks() {
        SteamRations x = Laundries.withPressure11();
        x.setFire(0, 4);
        due("start(0, 2)", x.start(0, 2), 9);
        x.setFire(0, 0);
        x.run(1);
        Expect.due("worked", Laundries.machine(x, 0), 2, 8, 0);
        due("pressure", x.count(12), 4);
        x.run(1);
        Expect.due("waited", Laundries.machine(x, 0), 2, 8, 1);
        due("nothing is taken", x.count(12), 3);
        x.setFire(0, 2);
        x.run(1);
        Expect.due("worked again", Laundries.machine(x, 0), 2, 7, 1);
        x.setFire(0, 0);
        x.run(1);
        Expect.due("waited twice in all", Laundries.machine(x, 0), 2, 7, 2);
        due("count(9)", x.count(9), 0);
        x.run(1);
        Expect.due("spoiled", Laundries.machine(x, 0), -5, 0, 0);
        due("count(9)", x.count(9), 1);
        due("count(8)", x.count(8), 0);
        due("count(11)", x.count(11), 0);
        due("count(13)", x.count(13), 3);
        due("count(7)", x.count(7), 1);
        SteamRations y = Laundries.withPressure95();
        y.start(0, 2);
        y.run(8);
        Expect.due("9 ticks", Laundries.machine(y, 0), 2, 1, 0);
        y.run(1);
        due("worth", y.count(11), 9);
    }

    private static void lineInTicks() {
        SteamRations x = Laundries.withPressure11();
        x.queue(1);
        x.queue(0);
        x.run(1);
        due("the first one can't be started, the second one waits", x.count(7), 0);
        SteamRations y = Laundries.withPressure95();
        y.start(0, 0);
        y.queue(1);
        y.queue(0);
        y.run(1);
        Expect.due("one in a tick, in the lowest empty machine", Laundries.machine(y, 1), 1, 6, 0);
        Expect.due("line", Laundries.line(y), 0);
        y.run(1);
        Expect.due("it begins in the next tick", Laundries.machine(y, 1), 1, 5, 0);
        Expect.due("the next one", Laundries.machine(y, 2), 0, 4, 0);
        due("count(7)", y.count(7), 3);
        due("count(6)", y.count(6), 0);
        SteamRations z = Laundries.withPressure95();
        for (int machine = 0; machine < 4; machine++) {
            z.start(machine, 0);
        }
        z.queue(0);
        z.run(3);
        due("no empty machine", z.count(6), 1);
        due("run(1)", z.run(1), 4);
        Expect.due("a machine is empty in the tick in which its load is washed", Laundries.machine(z, 0), 0, 4, 0);
    }

    private static void type() {
        SteamRations x = new SteamRations();
        char[] signs = {0, 'f', 255, 256, '\ud800', '\uffff'};
        for (int i = 0; i < 80; i++) {
            due("type", x.type(signs[i % signs.length]), i + 1);
        }
        due("type of an 81st", x.type('f'), -3);
        due("count(15)", x.count(15), 80);
        due("type is no act", x.count(14), 0);
    }

    private static void clearText() {
        SteamRations x = new SteamRations();
        due("clearText()", x.clearText(), 0);
        Laundries.text(x, "l0,l1");
        due("clearText()", x.clearText(), 5);
        due("clearText()", x.clearText(), 0);
        due("clearText is no act", x.count(14), 0);
        Laundries.text(x, "l2");
        due("perform()", x.perform(), 1);
        due("the text was l2 alone", x.line(0), 2);
        x.undo();
        due("the text is no part of a state", x.count(15), 2);
    }

    private static void faultsOfTexts() {
        String[] ends = {"", "f", "f0", "f0:", "w", "w1", "w1:", "m", "m3", "m3:", "l", "t", "l0,", "t200,", "t1,f1"};
        for (String text : ends) {
            due("perform() of " + text, Laundries.performed(new SteamRations(), text), -100 - text.length());
        }
        fault("x", 0);
        fault(",", 0);
        fault(" l0", 0);
        fault("L0", 0);
        fault("f2:0", 1);
        fault("f:0", 1);
        fault("f00:1", 2);
        fault("f0,1", 2);
        fault("f0:6", 3);
        fault("f0:-1", 3);
        fault("f0:00", 4);
        fault("f0:05", 4);
        fault("f1:10", 4);
        fault("w2:1", 1);
        fault("w0:0", 3);
        fault("w0:05", 3);
        fault("w0:201", 5);
        fault("w0:300", 5);
        fault("w0:2000", 6);
        fault("w0:1999", 6);
        fault("w0:21,t1x", 8);
        fault("m4:0", 1);
        fault("m10:0", 2);
        fault("m0:3", 3);
        fault("m0:22", 4);
        fault("l3", 1);
        fault("l:", 1);
        fault("l00", 2);
        fault("l0l", 2);
        fault("t0", 1);
        fault("t201", 3);
        fault("t210", 3);
        fault("t999", 3);
        fault("t2000", 4);
        fault("t1:", 2);
        fault("t1,,t1", 3);
        fault("t1, t1", 3);
        fault("t\u0661", 1);
        fault("l0;l0", 2);
        fault("l\u0130", 1);
        fault("\u016c0", 0);
        due("all 80 signs", Laundries.performed(new SteamRations(), "l0,".repeat(26) + "l"), -179);
        due("80 signs and a fault", Laundries.performed(new SteamRations(), "t1,".repeat(26) + "t0"), -179);
        due("80 signs, no fault", Laundries.performed(new SteamRations(), "t1,".repeat(26) + "t9"), 27);
        due("80 signs, a comma last", Laundries.performed(new SteamRations(), "t10," + "t1,".repeat(25) + ","), -179);
    }

    private static void fault(String text, int place) {
        SteamRations x = new SteamRations();
        due("perform() of " + text, Laundries.performed(x, text), -100 - place);
        due("a text with a fault does nothing", x.count(0) + x.count(6) + x.count(14), 0);
        due("and is no stop", x.stopped(0), -5);
    }

    private static void perform() {
        SteamRations x = new SteamRations();
        due("perform()", Laundries.performed(x, "f0:5,f1:3,w0:100,w1:7,l2,t2,l1,l0"), 8);
        due("fires", 10 * x.boiler(0, 0) + x.boiler(1, 0), 53);
        Expect.due("waters", new int[] {x.boiler(0, 1), x.boiler(1, 1)}, 190, 101);
        due("ticks", x.count(0), 2);
        due("started from the line", x.machine(0, 0), 2);
        Expect.due("line", Laundries.line(x), 1, 0);
        due("one act", x.count(14), 1);
        due("the text stays", x.count(15), 33);
        due("undo()", x.undo(), 0);
        Expect.due("all is undone", Laundries.counts(x), 0, 50, 0, 0, 40, 0, 0, 0, 0, 0, 0, 0, 0, 0, 0, 33);
        due("perform() of NONE alone", Laundries.performed(x, "f0:0,f1:0"), 2);
        due("is an act", x.count(14), 1);
        due("no stop", x.stopped(1), -5);
        SteamRations y = new SteamRations();
        due("perform()", Laundries.performed(y, "f0:4,t1,m3:0,m0:0,t3"), 5);
        Expect.due("machine 3", Laundries.machine(y, 3), 0, 1, 0);
        due("perform()", Laundries.performed(y, "t1,t20,t200"), 3);
        due("ticks", y.count(0), 225);
        due("the greatest water", Laundries.performed(Laundries.withoutWater(), "w0:200"), 1);
        due("27 orders", Laundries.performed(new SteamRations(), "t1,".repeat(26) + "t1"), 27);
    }

    private static void stopsOfPerform() {
        SteamRations x = new SteamRations();
        x.setRation(7);
        due("perform()", Laundries.performed(x, "f0:3,l1,t9,w1:50,w1:51"), -4);
        Expect.due("stopped", new int[] {x.stopped(0), x.stopped(1)}, 4, -3);
        Expect.due("nothing is done", Laundries.counts(x), 0, 50, 0, 0, 7, 0, 0, 0, 0, 0, 0, 0, 0, 0, 1, 22);
        Expect.due("nothing is done", Laundries.boiler(x, 0), 0, 100, 0, 0, 0);
        due("stopped(2)", x.stopped(2), -2);
        due("stopped(-1)", x.stopped(-1), -2);
        due("perform()", Laundries.performed(x, "f0:0,m0:0"), -4);
        Expect.due("stopped", new int[] {x.stopped(0), x.stopped(1)}, 1, -12);
        x.undo();
        due("a stop is not undone", x.stopped(1), -12);
        due("perform() of a fault", Laundries.performed(x, "f0:6"), -103);
        due("perform() of one that goes", Laundries.performed(x, "l0"), 1);
        Expect.due("the latest stop stays", new int[] {x.stopped(0), x.stopped(1)}, 1, -12);
        due("perform()", Laundries.performed(x, "f0:5,t6,f0:1"), -4);
        Expect.due("stopped", new int[] {x.stopped(0), x.stopped(1)}, 2, -4);
        due("perform()", Laundries.performed(x, "f0:4,t1,m1:2,m1:2"), -4);
        Expect.due("stopped", new int[] {x.stopped(0), x.stopped(1)}, 3, -11);
        x.clearText();
        due("a line of 12", Laundries.performed(x, "l0,l0,l0,l0,l0,l0,l0,l0,l0,l0,l0"), 11);
        due("perform()", Laundries.performed(x, "l0"), -4);
        Expect.due("stopped", new int[] {x.stopped(0), x.stopped(1)}, 0, -3);
        SteamRations y = new SteamRations();
        Laundries.text(y, "t200,t200,t200,t200,t200,t200,t200,t200,t200,t200,t200,t200,t200,t200,t200,t200");
        for (int i = 0; i < 31; i++) {
            due("perform()", y.perform(), 16);
        }
        due("perform() at tick 99200", y.perform(), -4);
        Expect.due("stopped", new int[] {y.stopped(0), y.stopped(1)}, 3, -3);
        due("count(0)", y.count(0), 99200);
    }

    private static void undo() {
        SteamRations x = new SteamRations();
        for (int ration = 0; ration < 6; ration++) {
            x.setRation(ration);
        }
        due("count(14)", x.count(14), 4);
        due("undo()", x.undo(), 3);
        due("count(4)", x.count(4), 4);
        due("undo()", x.undo(), 2);
        due("undo()", x.undo(), 1);
        due("undo()", x.undo(), 0);
        due("the oldest ones are dropped", x.count(4), 1);
        due("undo()", x.undo(), -5);
        due("count(4)", x.count(4), 1);
        SteamRations y = Laundries.withStop();
        y.fill(1, 9);
        y.queue(2);
        y.start(2, 0);
        int[] counts = Laundries.counts(y);
        int[] boiler = Laundries.boiler(y, 0);
        y.run(77);
        y.undo();
        counts[14] = 3;
        Expect.due("undo of a run", Laundries.counts(y), counts);
        Expect.due("undo of a run", Laundries.boiler(y, 0), boiler);
        Expect.due("undo of a run", Laundries.machine(y, 2), 0, 4, 0);
        Expect.due("undo of a run", Laundries.line(y), 2);
        y.undo();
        due("undo of a start", y.count(7), 0);
        y.undo();
        due("undo of queue", y.count(6), 0);
        y.undo();
        due("undo of fill", y.boiler(1, 1), 100);
    }

    /** The state before each act is another one, so that each has to record its own. */
    private static void undoOfEachAct() {
        SteamRations x = Laundries.withWaits();
        x.setFire(1, 3);
        x.undo();
        due("undo of setFire", x.boiler(1, 0), 0);
        x.queue(2);
        x.fill(1, 9);
        x.undo();
        due("undo of fill", 1000 * x.boiler(1, 1) + x.count(6), 100_001);
        x.queue(0);
        x.setRation(9);
        x.undo();
        due("undo of setRation", 100 * x.count(4) + x.count(6), 4002);
        x.fill(0, 1);
        x.queue(1);
        x.undo();
        Expect.due("undo of queue", new int[] {x.count(6), x.boiler(0, 1)}, 2, 97);
        x.fill(0, 1);
        x.unqueue(0);
        x.undo();
        Expect.due("undo of unqueue", new int[] {x.line(0), x.line(1), x.boiler(0, 1)}, 2, 0, 98);
        x.fill(0, 1);
        x.takeOut(0);
        x.undo();
        Expect.due("undo of takeOut", Laundries.machine(x, 0), 2, 8, 1);
        Expect.due("undo of takeOut", new int[] {x.count(10), x.count(13), x.boiler(0, 1)}, 0, 1, 99);
        x.fill(0, 1);
        x.run(1);
        due("waited again", x.machine(0, 2), 2);
        x.undo();
        Expect.due("undo of run", new int[] {x.machine(0, 2), x.count(13), x.boiler(0, 1)}, 1, 1, 100);
    }

    private static void keepAndRestore() {
        SteamRations x = Laundries.withPressure11();
        due("keep()", x.keep(), 1);
        due("keep is no act", x.count(14), 3);
        x.start(1, 0);
        x.queue(2);
        x.run(9);
        due("restore()", x.restore(), 1);
        due("count(7)", x.count(7), 0);
        due("count(6)", x.count(6), 0);
        due("count(12)", x.count(12), 11);
        due("restore is an act", x.count(14), 4);
        due("undo()", x.undo(), 3);
        due("the run is back", x.count(0), 10);
        due("restore() again", x.restore(), 1);
        due("restore() of the same state", x.restore(), 1);
        x.run(5);
        due("keep()", x.keep(), 6);
        x.run(5);
        due("the snapshot is replaced", x.restore(), 6);
        SteamRations y = new SteamRations();
        due("restore()", y.restore(), -5);
        due("NONE is no act", y.count(14), 0);
        due("keep()", y.keep(), 0);
        y.setRation(3);
        due("restore()", y.restore(), 0);
        due("count(4)", y.count(4), 40);
        y.undo();
        y.undo();
        y.queue(0);
        due("undo leaves the snapshot", y.restore(), 0);
        due("count(6)", y.count(6), 0);
    }

    private static void boiler() {
        SteamRations x = Laundries.withStop();
        x.setFire(1, 2);
        x.run(1);
        Expect.due("boiler 0", Laundries.boiler(x, 0), 0, 70, 29, 9, 1);
        Expect.due("boiler 1", Laundries.boiler(x, 1), 2, 98, 5, 0, 0);
        due("boiler(2, 5)", x.boiler(2, 5), -1);
        due("boiler(-1, 0)", x.boiler(-1, 0), -1);
        due("boiler(0, 5)", x.boiler(0, 5), -2);
        due("boiler(1, -1)", x.boiler(1, -1), -2);
        due("boiler(HIGH, LOW)", x.boiler(HIGH, LOW), -1);
    }

    private static void machine() {
        SteamRations x = Laundries.withPressure11();
        x.start(2, 0);
        x.run(1);
        Expect.due("machine 2", Laundries.machine(x, 2), 0, 3, 0);
        Expect.due("machine 3", Laundries.machine(x, 3), -5, 0, 0);
        due("machine(4, 3)", x.machine(4, 3), -1);
        due("machine(-1, 0)", x.machine(-1, 0), -1);
        due("machine(2, 3)", x.machine(2, 3), -2);
        due("machine(3, -1)", x.machine(3, -1), -2);
    }

    private static void line() {
        SteamRations x = new SteamRations();
        x.queue(2);
        x.queue(1);
        due("line(0)", x.line(0), 2);
        due("line(1)", x.line(1), 1);
        due("line(2)", x.line(2), -5);
        due("line(HIGH)", x.line(HIGH), -5);
        due("line(-1)", x.line(-1), -2);
        due("line(LOW)", x.line(LOW), -2);
        x.unqueue(1);
        due("line(1)", x.line(1), -5);
    }

    private static void doneIn() {
        SteamRations x = Laundries.withPressure11();
        due("doneIn()", x.doneIn(), 0);
        x.start(0, 0);
        due("a wool, doneIn()", x.doneIn(), 4);
        x.run(3);
        due("doneIn()", x.doneIn(), 1);
        due("it changes nothing", x.machine(0, 1), 1);
        x.run(1);
        due("doneIn()", x.doneIn(), 0);
        SteamRations y = Laundries.withPressure95();
        y.queue(0);
        y.queue(0);
        due("started in ticks 1 and 2, washed in 5 and 6", y.doneIn(), 6);
        SteamRations z = Laundries.withPressure11();
        z.setFire(0, 4);
        z.start(0, 2);
        z.setFire(0, 0);
        due("a spoiled one leaves its machine, too", z.doneIn(), 4);
        SteamRations never = new SteamRations();
        never.queue(1);
        due("no fire, doneIn()", never.doneIn(), -5);
        due("tells alone are no acts", never.count(14), 1);
    }

    private static void ifFires() {
        SteamRations x = Laundries.withPressure11();
        x.queue(0);
        due("no fires, washed", x.ifFires(0, 0, 60, 0), 0);
        due("fire 5, coal of 3 ticks", x.ifFires(5, 0, 3, 2), 15);
        due("fires 5 and 5, coal of 3 ticks", x.ifFires(5, 5, 3, 2), 30);
        due("fires 0 and 4, coal of 2 ticks", x.ifFires(0, 4, 2, 2), 8);
        due("fires 5 and 5, stops in 6 ticks", x.ifFires(5, 5, 6, 3), 1);
        due("fires 5 and 0, washed in 4 ticks", x.ifFires(5, 0, 4, 0), 0);
        due("fires 5 and 0, washed in 5 ticks", x.ifFires(5, 0, 5, 0), 1);
        due("spoiled", x.ifFires(0, 0, 200, 1), 0);
        Expect.due("it changes nothing", Laundries.counts(x), 1, 46, 4, 0, 40, 0, 1, 0, 0, 0, 0, 0, 11, 0, 4, 0);
        int[][] wrong = {{-1, 0, 1, 0}, {6, 0, 1, 0}, {0, -1, 1, 0}, {0, 6, 1, 0}, {0, 0, 0, 0}, {0, 0, 201, 0},
            {0, 0, 1, -1}, {0, 0, 1, 4}, {LOW, 0, 1, 0}, {0, HIGH, 1, 0}, {0, 0, HIGH, 0}, {0, 0, 1, HIGH}};
        for (int[] w : wrong) {
            due("ifFires of a wrong argument", x.ifFires(w[0], w[1], w[2], w[3]), -2);
        }
        SteamRations spoils = Laundries.withPressure11();
        spoils.setFire(0, 4);
        spoils.start(0, 2);
        due("spoiled in 3 ticks", spoils.ifFires(0, 0, 3, 1), 0);
        due("spoiled in 4 ticks", spoils.ifFires(0, 0, 4, 1), 1);
        due("spoiled with fire 4", spoils.ifFires(4, 0, 4, 1), 0);
        spoils.setFire(0, 0);
        spoils.run(4);
        due("a spoiled one", spoils.count(9), 1);
        due("spoiled ones before do not count", spoils.ifFires(0, 0, 9, 1), 0);
        due("coal burnt before does not count", spoils.ifFires(1, 0, 9, 2), 9);
        SteamRations stopped = Laundries.withStop();
        due("a stopped boiler burns nothing in its stop", stopped.ifFires(5, 0, 10, 2), 0);
        due("and then it does", stopped.ifFires(5, 0, 11, 2), 5);
        due("stops before do not count", stopped.ifFires(5, 0, 11, 3), 0);
        due("stops of the future do", stopped.ifFires(0, 3, 20, 3), 0);
    }

    private static void bestFires() {
        SteamRations x = new SteamRations();
        due("nothing to wash, bestFires(100)", x.bestFires(100), 0);
        due("bestFires(0)", x.bestFires(0), -2);
        due("bestFires(-1)", x.bestFires(-1), -2);
        due("bestFires(101)", x.bestFires(101), -2);
        due("bestFires(HIGH)", x.bestFires(HIGH), -2);
        x.queue(0);
        due("one wool, 4 ticks are too few", x.bestFires(4), 0);
        due("one wool, bestFires(5)", x.bestFires(5), bestOfAll(x, 5));
        SteamRations y = Laundries.withStop();
        for (int i = 0; i < 12; i++) {
            y.queue(i % 3);
        }
        for (int ticks = 1; ticks <= 100; ticks += 33) {
            due("bestFires(" + ticks + ")", withLine().bestFires(ticks), bestOfAll(withLine(), ticks));
        }
        int best = y.bestFires(100);
        due("with a stopped boiler", best, bestOfAll(withStopAndLine(), 100));
        due("it changes nothing", y.count(0), 6);
    }

    private static SteamRations withLine() {
        SteamRations x = new SteamRations();
        for (int i = 0; i < 6; i++) {
            x.queue(i % 3);
        }
        return x;
    }

    private static SteamRations withStopAndLine() {
        SteamRations x = Laundries.withStop();
        for (int i = 0; i < 12; i++) {
            x.queue(i % 3);
        }
        return x;
    }

    /** What bestFires() is to answer, by asking ifFires() for all fires, from the last ones to the first ones. */
    private static int bestOfAll(SteamRations x, int ticks) {
        int best = 0;
        int washed = -1;
        int burnt = 0;
        for (int fires = 35; fires >= 0; fires--) {
            int w = x.ifFires(fires / 6, fires % 6, ticks, 0);
            int c = x.ifFires(fires / 6, fires % 6, ticks, 2);
            if (w > washed || w == washed && c <= burnt) {
                best = fires / 6 * 10 + fires % 6;
                washed = w;
                burnt = c;
            }
        }
        return best;
    }

    private static void count() {
        SteamRations x = new SteamRations();
        due("count(-1)", x.count(-1), -2);
        due("count(16)", x.count(16), -2);
        due("count(LOW)", x.count(LOW), -2);
        due("count(HIGH)", x.count(HIGH), -2);
        x.setRation(100);
        x.setFire(0, 4);
        x.setFire(1, 3);
        x.run(5);
        x.queue(1);
        x.queue(2);
        x.start(0, 0);
        x.start(1, 1);
        x.takeOut(0);
        x.run(55);
        Laundries.text(x, "l0");
        int[] all = Laundries.counts(x);
        due("ticks", all[0], 60);
        due("coal adds up", all[1], 50 + all[3] - all[2]);
        due("rations", all[3], 100);
        due("loads add up", all[7], all[5] + all[8] + all[9] + all[10]);
        due("loads of the line and of start()", all[7] + all[6], 4);
        due("taken out", all[10], 1);
        due("pressure", all[12], x.boiler(0, 2) + x.boiler(1, 2));
        due("history", all[14], 4);
        due("text", all[15], 2);
    }
}
