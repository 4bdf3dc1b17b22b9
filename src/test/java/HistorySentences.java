import java.util.function.ToIntFunction;

/** The sentences of 'Terms' about the history and the errors, in the document's order. */
final class HistorySentences {
    private static final int LOW = Laundries.LOW;
    private static final int HIGH = Laundries.HIGH;

    private HistorySentences() {
    }

    static void test() {
        Sentences.part("Terms");
        line();
        history();
        acts();
        snapshotAndState();
        errors();
        constants();
    }

    private static void due(String call, long got, long want) {
        Expect.due(call, got, want);
    }

    private static void due(String call, int[] got, int... want) {
        Expect.due(call, got, want);
    }

    private static void line() {
        Sentences.sentence("The line has at most 12 loads.", () -> {
            SteamRations x = Laundries.withFullLine();
            due("a 13th, queue(0)", x.queue(0), -3);
            due("count(6)", x.count(6), 12);
            due("the last one", x.line(11), 2);
            due("none behind it", x.line(12), -5);
            x.unqueue(0);
            due("there is room again, queue(1)", x.queue(1), 11);
            due("and no more, queue(1)", x.queue(1), -3);
        });
    }

    private static void history() {
        Sentences.sentence("A history of at most 4 states is kept;", () -> {
            SteamRations x = new SteamRations();
            due("at first", x.count(14), 0);
            for (int act = 1; act <= 6; act++) {
                x.fill(0, 1);
                due("states after act " + act, x.count(14), Math.min(act, 4));
            }
        });
        Sentences.sentence("when one more is recorded, the oldest one is dropped;", () -> {
            SteamRations x = new SteamRations();
            for (int act = 1; act <= 7; act++) {
                x.fill(0, 1);
            }
            for (int left = 3; left >= 0; left--) {
                due("undo()", x.undo(), left);
                due("water", x.boiler(0, 1), 103 + left);
            }
            due("the states before are dropped, undo()", x.undo(), -5);
            due("water", x.boiler(0, 1), 103);
        });
        Sentences.sentence("undo() removes and restores the latest one.", () -> {
            SteamRations x = new SteamRations();
            x.fill(0, 1);
            x.fill(0, 2);
            due("undo()", x.undo(), 1);
            due("the latest one", x.boiler(0, 1), 101);
            due("is removed", x.count(14), 1);
            due("an act after it", x.fill(0, 4), 105);
            due("is recorded", x.count(14), 2);
            due("undo()", x.undo(), 1);
            due("its state", x.boiler(0, 1), 101);
            due("undo()", x.undo(), 0);
            due("the one before", x.boiler(0, 1), 100);
        });
    }

    /** A cotton in machine 1, linen and wool in the line, a text, a snapshot of the beginning, one act so far. */
    private static SteamRations readyForActs() {
        SteamRations x = new SteamRations();
        x.keep();
        due("perform()", Laundries.performed(x, "f0:4,f1:3,t5,f0:0,f1:0,m1:1,l2,l0"), 8);
        Laundries.text(x, "w0:1,t5");
        return x;
    }

    private static void acts() {
        Sentences.sentence("Each call of a method that is described as an act, and returns no error and not NONE, "
            + "records the state that was before it.", () -> {
            act("setFire(0, 2)", x -> x.setFire(0, 2), 0);
            act("fill(1, 5)", x -> x.fill(1, 5), 90);
            act("setRation(0)", x -> x.setRation(0), 40);
            act("start(3, 0)", x -> x.start(3, 0), 4);
            act("queue(1)", x -> x.queue(1), 2);
            act("unqueue(0)", x -> x.unqueue(0), 2);
            act("takeOut(1)", x -> x.takeOut(1), 6);
            act("run(6)", x -> x.run(6), 1);
            act("perform()", x -> x.perform(), 2);
            act("restore()", x -> x.restore(), 0);
            noAct("setFire(0, 0), which is NONE", x -> x.setFire(0, 0), -5);
            noAct("setRation(40), which is NONE", x -> x.setRation(40), -5);
            noAct("setFire(0, 6), an error", x -> x.setFire(0, 6), -2);
            noAct("fill(2, 1), an error", x -> x.fill(2, 1), -1);
            noAct("setRation(201), an error", x -> x.setRation(201), -2);
            noAct("start(1, 0), an error", x -> x.start(1, 0), -11);
            noAct("queue(3), an error", x -> x.queue(3), -1);
            noAct("unqueue(2), an error", x -> x.unqueue(2), -1);
            noAct("takeOut(0), an error", x -> x.takeOut(0), -4);
            noAct("run(0), an error", x -> x.run(0), -2);
            noAct("type(x)", x -> x.type('x'), 8);
            noAct("perform() of a fault", x -> 0 * x.type('x') + x.perform(), -107);
            noAct("perform() that is stopped", x -> 0 * x.clearText() + Laundries.performed(x, "m1:0"), -4);
            noAct("clearText()", x -> x.clearText(), 7);
            noAct("keep()", x -> x.keep(), 5);
            noAct("stopped(0)", x -> x.stopped(0), -5);
            noAct("boiler(0, 2)", x -> x.boiler(0, 2), 55);
            noAct("machine(1, 1)", x -> x.machine(1, 1), 6);
            noAct("line(0)", x -> x.line(0), 2);
            noAct("reason(0)", x -> x.reason(0), 0);
            noAct("doneIn()", x -> x.doneIn(), -5);
            noAct("ifFires(1, 1, 9, 2)", x -> x.ifFires(1, 1, 9, 2), 15);
            noAct("bestFires(6)", x -> x.bestFires(6), 1);
            noAct("count(1)", x -> x.count(1), 15);
        });
    }

    private static void act(String call, ToIntFunction<SteamRations> act, int answer) {
        SteamRations x = readyForActs();
        int[] before = Laundries.state(x);
        due(call, act.applyAsInt(x), answer);
        due(call + " is recorded, count(14)", x.count(14), 2);
        due(call + ", undo()", x.undo(), 1);
        due(call + " is undone", Laundries.state(x), before);
    }

    private static void noAct(String call, ToIntFunction<SteamRations> other, int answer) {
        SteamRations x = readyForActs();
        int[] before = Laundries.state(x);
        due(call, other.applyAsInt(x), answer);
        due(call + " is not recorded, count(14)", x.count(14), 1);
        due(call + " leaves the state", Laundries.state(x), before);
        x.undo();
        due(call + " leaves what is recorded", Laundries.state(x), Laundries.state(new SteamRations()));
    }

    private static void snapshotAndState() {
        Sentences.sentence("There is one snapshot, empty at first.", () -> {
            SteamRations x = new SteamRations();
            due("at first, restore()", x.restore(), -5);
            x.run(3);
            due("keep()", x.keep(), 3);
            x.run(4);
            due("keep()", x.keep(), 7);
            x.run(1);
            due("the latter one, restore()", x.restore(), 7);
            due("and no other behind it, restore()", x.restore(), 7);
        });
        Sentences.sentence("A state is everything but the text, the history, the snapshot and the latest stop.", () -> {
            SteamRations x = Laundries.withAll();
            int[] kept = Laundries.state(x);
            x.keep();
            x.run(9);
            x.clearText();
            due("perform() that is stopped", Laundries.performed(x, "t1,m3:2,m3:2"), -4);
            int[] stop = Laundries.stop(x);
            int[] ran = Laundries.state(x);
            x.takeOut(0);
            x.setRation(7);
            due("restore()", x.restore(), kept[0]);
            due("all of the state is back", Laundries.state(x), kept);
            due("the text is not", x.count(15), 12);
            due("the latest stop is not", Laundries.stop(x), stop);
            due("the history is not", x.count(14), 4);
            due("undo()", x.undo(), 3);
            due("undo()", x.undo(), 2);
            due("all of the state before is back", Laundries.state(x), ran);
            due("the text is not", x.count(15), 12);
            due("the latest stop is not", Laundries.stop(x), stop);
            due("undo()", x.undo(), 1);
            due("the snapshot is not, restore()", x.restore(), kept[0]);
            due("the state of the snapshot", Laundries.state(x), kept);
            waitsAreInTheState();
        });
    }

    private static void waitsAreInTheState() {
        SteamRations x = Laundries.withWaits();
        int[] kept = Laundries.state(x);
        x.keep();
        x.run(1);
        due("waited once more", 10 * x.machine(0, 2) + x.count(13), 22);
        x.undo();
        due("what is undone", Laundries.state(x), kept);
        x.run(2);
        due("spoiled", 10 * x.count(9) + x.count(13), 13);
        x.restore();
        due("what is restored", Laundries.state(x), kept);
    }

    private static void errors() {
        Sentences.sentence("Errors are reported by the constants below.", () -> {
            SteamRations x = Laundries.withFullLine();
            due("no such boiler", x.setFire(2, 0), SteamRations.UNKNOWN);
            due("no such fire", x.setFire(0, 6), SteamRations.BAD_VALUE);
            due("no room", x.queue(0), SteamRations.FULL);
            due("an empty machine", x.takeOut(0), SteamRations.NOT_POSSIBLE);
            due("the same fire", x.setFire(0, 0), SteamRations.NONE);
            due("no pressure", x.start(0, 0), SteamRations.NOT_STARTED - 2);
        });
        Sentences.sentence("Where several errors can apply, the order of the @return line is the order of the checks.",
            HistorySentences::orderOfErrors);
        Sentences.sentence("NONE is no error; it is returned only if no error applies.", () -> {
            SteamRations x = Laundries.withStop();
            due("a stopped boiler, setFire(0, 0)", x.setFire(0, 0), -4);
            due("no stop yet, stopped(2)", x.stopped(2), -2);
            due("no stop yet, stopped(-1)", x.stopped(-1), -2);
            due("no loads, line(-1)", x.line(-1), -2);
            due("an empty machine, machine(0, 3)", x.machine(0, 3), -2);
            due("an empty machine, machine(0, 0)", x.machine(0, 0), -5);
            SteamRations y = new SteamRations();
            due("commands that are NONE do not stop, perform()", Laundries.performed(y, "f0:0,l1,f0:0,f1:0"), 4);
            due("and are no stop", y.stopped(1), -5);
        });
        Sentences.sentence("A call that returns an error or NONE changes nothing "
            + "(but for the latest stop of perform()).",
            HistorySentences::refusedCalls);
    }

    private static void orderOfErrors() {
        SteamRations stopped = Laundries.withStop();
        due("setFire(2, 6)", stopped.setFire(2, 6), -1);
        due("setFire(0, 6), stopped", stopped.setFire(0, 6), -2);
        due("setFire(0, -1), stopped", stopped.setFire(0, -1), -2);
        SteamRations filled = new SteamRations();
        filled.fill(0, 100);
        due("fill(-1, 201)", filled.fill(-1, 201), -1);
        due("fill(0, 201), full", filled.fill(0, 201), -2);
        due("fill(0, 0), full", filled.fill(0, 0), -2);
        due("fill(0, HIGH), full", filled.fill(0, HIGH), -2);
        SteamRations cold = new SteamRations();
        due("start(4, 0), no pressure", cold.start(4, 0), -1);
        due("start(0, 3), no pressure", cold.start(0, 3), -1);
        SteamRations full = Laundries.withPressure140();
        full.start(0, 0);
        due("start(0, 3), not empty", full.start(0, 3), -1);
        due("start(0, -1), not empty", full.start(0, -1), -1);
        SteamRations line = Laundries.withFullLine();
        due("queue(3), full", line.queue(3), -1);
        due("queue(-1), full", line.queue(-1), -1);
        due("takeOut(4)", line.takeOut(4), -1);
        SteamRations late = Laundries.atTick99800();
        due("run(201), too late", late.run(201), -2);
        due("run(HIGH), too late", late.run(HIGH), -2);
        due("run(200), too late", late.run(200), -3);
        due("boiler(2, 5)", late.boiler(2, 5), -1);
        due("boiler(1, 5)", late.boiler(1, 5), -2);
        due("machine(4, 3)", late.machine(4, 3), -1);
        due("machine(3, 3)", late.machine(3, 3), -2);
    }

    private static void refusedCalls() {
        for (int bad : new int[] {LOW, -1, 6, 201, HIGH}) {
            refused("setFire(" + bad + ", 0)", x -> x.setFire(bad, 0), -1);
            refused("setFire(1, " + bad + ")", x -> x.setFire(1, bad), -2);
            refused("fill(" + bad + ", 1)", x -> x.fill(bad, 1), -1);
            refused("setRation(" + (bad == 6 ? 202 : bad) + ")", x -> x.setRation(bad == 6 ? 202 : bad), -2);
            refused("start(" + bad + ", 0)", x -> x.start(bad, 0), -1);
            refused("start(0, " + bad + ")", x -> x.start(0, bad), -1);
            refused("queue(" + bad + ")", x -> x.queue(bad), -1);
            refused("unqueue(" + bad + ")", x -> x.unqueue(bad), -1);
            refused("takeOut(" + bad + ")", x -> x.takeOut(bad), -1);
            refused("boiler(" + bad + ", 0)", x -> x.boiler(bad, 0), -1);
            refused("boiler(0, " + bad + ")", x -> x.boiler(0, bad), -2);
            refused("machine(" + bad + ", 0)", x -> x.machine(bad, 0), -1);
            refused("machine(0, " + bad + ")", x -> x.machine(0, bad), -2);
            refused("line(" + bad + ")", x -> x.line(bad), bad < 0 ? -2 : -5);
            refused("reason(" + bad + ")", x -> x.reason(bad), -1);
            refused("ifFires(" + bad + ", 0, 1, 0)", x -> x.ifFires(bad, 0, 1, 0), -2);
            refused("ifFires(0, " + bad + ", 1, 0)", x -> x.ifFires(0, bad, 1, 0), -2);
            refused("ifFires(0, 0, 1, " + bad + ")", x -> x.ifFires(0, 0, 1, bad), -2);
            refused("stopped(" + bad + ")", x -> x.stopped(bad), -2);
        }
        for (int bad : new int[] {LOW, -1, 0, 201, HIGH}) {
            refused("fill(0, " + bad + ")", x -> x.fill(0, bad), -2);
            refused("run(" + bad + ")", x -> x.run(bad), -2);
            refused("ifFires(0, 0, " + bad + ", 0)", x -> x.ifFires(0, 0, bad, 0), -2);
            refused("bestFires(" + bad + ")", x -> x.bestFires(bad), -2);
        }
        for (int bad : new int[] {LOW, -1, 16, HIGH}) {
            refused("count(" + bad + ")", x -> x.count(bad), -2);
        }
        refused("setFire of a stopped boiler", x -> x.setFire(1, 3), -4);
        refused("setFire of the same fire", x -> x.setFire(0, 0), -5);
        refused("fill of too much", x -> x.fill(0, 200), -3);
        refused("setRation of the same one", x -> x.setRation(33), -5);
        refused("start in a machine with a load", x -> x.start(2, 0), -11);
        refused("start of what would wait", x -> x.start(0, 2), -13);
        refused("takeOut of an empty machine", x -> x.takeOut(3), -4);
        notRestored();
    }

    private static void notRestored() {
        SteamRations x = new SteamRations();
        due("restore() without a snapshot", x.restore(), -5);
        due("undo() without a state", x.undo(), -5);
        due("nothing is changed", Laundries.everything(x), Laundries.everything(new SteamRations()));
        due("perform() of a fault", Laundries.performed(x, "l0,t60,f1:6"), -110);
        due("the state is not changed", Laundries.state(x), Laundries.state(new SteamRations()));
        due("nothing is recorded", x.count(14), 0);
        due("the text stays", x.count(15), 11);
        due("no stop is told", Laundries.stop(x), -5, -5);
        due("perform() that is stopped", Laundries.performed(x, "l0,t60,l1,f1:3,w0:99,m0:0"), -4);
        due("the state is not changed", Laundries.state(x), Laundries.state(new SteamRations()));
        due("nothing is recorded", x.count(14), 0);
        due("the text stays", x.count(15), 25);
        due("the latest stop is told", Laundries.stop(x), 5, -12);
    }

    /** A laundry that is asked this is as one that is not: all that it tells, its history, its snapshot, its text. */
    private static void refused(String call, ToIntFunction<SteamRations> asked, int answer) {
        SteamRations x = Laundries.withAll();
        SteamRations other = Laundries.withAll();
        due(call, asked.applyAsInt(x), answer);
        due(call + " changes nothing", Laundries.everything(x), Laundries.everything(other));
        due(call + ", the text then", x.perform(), other.perform());
        for (int undone = 0; undone < 4; undone++) {
            due(call + ", undo() then", x.undo(), other.undo());
            due(call + ", the state then", Laundries.state(x), Laundries.state(other));
        }
        due(call + ", restore() then", x.restore(), other.restore());
        due(call + ", the snapshot then", Laundries.state(x), Laundries.state(other));
    }

    private static void constants() {
        Sentences.sentence("The constants: `UNKNOWN = -1`: There is no such boiler, machine, kind or place.", () -> {
            due("UNKNOWN", SteamRations.UNKNOWN, -1);
            SteamRations x = new SteamRations();
            due("no such boiler", x.boiler(2, 0), -1);
            due("no such machine", x.machine(4, 0), -1);
            due("no such kind", x.queue(3), -1);
            due("no such place", x.unqueue(0), -1);
        });
        Sentences.sentence("`BAD_VALUE = -2`: Another argument is out of range.", () -> {
            due("BAD_VALUE", SteamRations.BAD_VALUE, -2);
            due("run(0)", new SteamRations().run(0), -2);
            due("count(16)", new SteamRations().count(16), -2);
        });
        Sentences.sentence("`FULL = -3`: There is no more room.", () -> {
            due("FULL", SteamRations.FULL, -3);
            due("fill(0, 101)", new SteamRations().fill(0, 101), -3);
            due("queue(0)", Laundries.withFullLine().queue(0), -3);
        });
        Sentences.sentence("`NOT_POSSIBLE = -4`: This is not possible.", () -> {
            due("NOT_POSSIBLE", SteamRations.NOT_POSSIBLE, -4);
            due("takeOut(0)", new SteamRations().takeOut(0), -4);
        });
        Sentences.sentence("`NONE = -5`: There is no such thing; not an error.", () -> {
            due("NONE", SteamRations.NONE, -5);
            due("undo()", new SteamRations().undo(), -5);
            due("machine(0, 0)", new SteamRations().machine(0, 0), -5);
        });
        Sentences.sentence("`NOT_STARTED = -10`: A load is not started: this minus the reason is returned.", () -> {
            due("NOT_STARTED", SteamRations.NOT_STARTED, -10);
            SteamRations x = Laundries.withPressure11();
            due("reason 3", x.start(0, 1), -13);
            due("start(0, 0)", x.start(0, 0), 4);
            due("reason 1", x.start(0, 1), -11);
            due("reason 2", new SteamRations().start(0, 1), -12);
        });
    }
}
