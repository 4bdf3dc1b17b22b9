/** The sentences of the promises 1 to 16, the calls that change something, in the document's order. */
final class PromiseSentences {
    private static final int LOW = Laundries.LOW;
    private static final int HIGH = Laundries.HIGH;

    private PromiseSentences() {
    }

    static void test() {
        newObject();
        setFire();
        fill();
        setRation();
        start();
        queue();
        unqueue();
        takeOut();
        run();
        type();
        clearText();
        perform();
        performAnswers();
        stopped();
        undo();
        keep();
        restore();
    }

    private static void due(String call, long got, long want) {
        Expect.due(call, got, want);
    }

    private static void due(String call, int[] got, int... want) {
        Expect.due(call, got, want);
    }

    /** An act that undo() takes back. */
    private static void isAct(SteamRations x, int[] before) {
        int states = x.count(14);
        due("undo()", x.undo(), states - 1);
        due("what is undone", Laundries.state(x), before);
    }

    private static void newObject() {
        Sentences.part("Promise 1");
        Sentences.sentence("Creates a laundry without fires and loads.", () -> {
            SteamRations other = Laundries.withAll();
            SteamRations x = new SteamRations();
            due("another one has loads", other.count(7), 2);
            due("fires", 10 * x.boiler(0, 0) + x.boiler(1, 0), 0);
            due("counts", Laundries.counts(x), 0, 50, 0, 0, 40, 0, 0, 0, 0, 0, 0, 0, 0, 0, 0, 0);
            due("boiler 0", Laundries.boiler(x, 0), 0, 100, 0, 0, 0);
            due("boiler 1", Laundries.boiler(x, 1), 0, 100, 0, 0, 0);
            for (int machine = 0; machine < 4; machine++) {
                due("machine " + machine, Laundries.machine(x, machine), -5, 0, 0);
            }
            due("line(0)", x.line(0), -5);
            due("doneIn()", x.doneIn(), 0);
            due("stopped", Laundries.stop(x), -5, -5);
            due("restore()", x.restore(), -5);
            due("undo()", x.undo(), -5);
        });
    }

    private static void setFire() {
        Sentences.part("Promise 2");
        Sentences.sentence("Sets a fire.", () -> {
            for (int fire = 1; fire <= 5; fire++) {
                SteamRations x = new SteamRations();
                x.setFire(1, fire);
                due("fires", 10 * x.boiler(0, 0) + x.boiler(1, 0), fire);
                due("coal before a tick", x.count(1), 50);
            }
        });
        Sentences.sentence("This is an act.", () -> {
            SteamRations x = new SteamRations();
            x.setFire(0, 2);
            int[] before = Laundries.state(x);
            x.setFire(0, 3);
            isAct(x, before);
        });
        Sentences.sentence("`boiler`: 0 or 1", () -> {
            SteamRations x = new SteamRations();
            due("setFire(0, 1)", x.setFire(0, 1), 0);
            due("setFire(1, 2)", x.setFire(1, 2), 0);
            due("fires", 10 * x.boiler(0, 0) + x.boiler(1, 0), 12);
        });
        Sentences.sentence("`fire`: 0 to 5", () -> {
            SteamRations x = new SteamRations();
            for (int fire = 1; fire <= 5; fire++) {
                due("setFire(0, " + fire + ")", x.setFire(0, fire), fire - 1);
            }
            due("setFire(0, 0)", x.setFire(0, 0), 5);
        });
        Sentences.sentence("Returns the previous one;", () -> {
            SteamRations x = new SteamRations();
            due("setFire(0, 4)", x.setFire(0, 4), 0);
            due("setFire(1, 1)", x.setFire(1, 1), 0);
            due("setFire(0, 2)", x.setFire(0, 2), 4);
            due("setFire(0, 0)", x.setFire(0, 0), 2);
            SteamRations out = Laundries.withPressure140();
            out.setFire(0, 3);
            out.run(1);
            due("a fire that went out, setFire(0, 1)", out.setFire(0, 1), 0);
        });
        Sentences.sentence("UNKNOWN;", () -> {
            for (int boiler : new int[] {LOW, -1, 2, 3, HIGH}) {
                due("setFire(" + boiler + ", 1)", new SteamRations().setFire(boiler, 1), -1);
            }
        });
        Sentences.sentence("BAD_VALUE;", () -> {
            for (int fire : new int[] {LOW, -1, 6, HIGH}) {
                due("setFire(0, " + fire + ")", new SteamRations().setFire(0, fire), -2);
                due("setFire(1, " + fire + ")", new SteamRations().setFire(1, fire), -2);
            }
        });
        Sentences.sentence("NOT_POSSIBLE if the boiler is stopped;", () -> {
            SteamRations x = Laundries.withStop();
            for (int fire = 0; fire <= 5; fire++) {
                due("setFire(0, " + fire + ")", x.setFire(0, fire), -4);
            }
            due("the other one, setFire(1, 1)", x.setFire(1, 1), 0);
            x.run(9);
            due("in its last tick, setFire(0, 1)", x.setFire(0, 1), -4);
            x.run(1);
            due("after it, setFire(0, 1)", x.setFire(0, 1), 0);
        });
        Sentences.sentence("NONE if it is so already.", () -> {
            SteamRations x = new SteamRations();
            due("setFire(0, 0)", x.setFire(0, 0), -5);
            x.setFire(0, 5);
            due("setFire(0, 5)", x.setFire(0, 5), -5);
            due("the other one, setFire(1, 5)", x.setFire(1, 5), 0);
        });
    }

    private static void fill() {
        Sentences.part("Promise 3");
        Sentences.sentence("Lets water into a boiler.", () -> {
            SteamRations x = new SteamRations();
            x.fill(1, 30);
            x.fill(1, 3);
            due("boiler 0", Laundries.boiler(x, 0), 0, 100, 0, 0, 0);
            due("boiler 1", Laundries.boiler(x, 1), 0, 133, 0, 0, 0);
            SteamRations stopped = Laundries.withStop();
            due("of a stopped one, fill(0, 7)", stopped.fill(0, 7), 77);
        });
        Sentences.sentence("This is an act.", () -> {
            SteamRations x = new SteamRations();
            x.fill(0, 2);
            int[] before = Laundries.state(x);
            x.fill(0, 3);
            isAct(x, before);
        });
        Sentences.sentence("`boiler`: 0 or 1", () -> {
            SteamRations x = new SteamRations();
            due("fill(0, 1)", x.fill(0, 1), 101);
            due("fill(1, 2)", x.fill(1, 2), 102);
        });
        Sentences.sentence("`water`: 1 to 200", () -> {
            due("fill(0, 1)", new SteamRations().fill(0, 1), 101);
            due("fill(0, 200)", Laundries.withoutWater().fill(0, 200), 200);
        });
        Sentences.sentence("Returns the water that it has then;", () -> {
            SteamRations x = Laundries.withPressure11();
            due("fill(0, 10)", x.fill(0, 10), 106);
            due("fill(0, 10)", x.fill(0, 10), 116);
        });
        Sentences.sentence("UNKNOWN;", () -> {
            for (int boiler : new int[] {LOW, -1, 2, HIGH}) {
                due("fill(" + boiler + ", 1)", new SteamRations().fill(boiler, 1), -1);
            }
        });
        Sentences.sentence("BAD_VALUE;", () -> {
            for (int water : new int[] {LOW, -1, 0, 201, HIGH}) {
                due("fill(0, " + water + ")", new SteamRations().fill(0, water), -2);
                due("fill(1, " + water + ")", new SteamRations().fill(1, water), -2);
            }
        });
        Sentences.sentence("FULL if it would have more than 200.", () -> {
            SteamRations x = new SteamRations();
            due("201, fill(0, 101)", x.fill(0, 101), -3);
            due("300, fill(0, 200)", x.fill(0, 200), -3);
            due("200, fill(0, 100)", x.fill(0, 100), 200);
            due("201, fill(0, 1)", x.fill(0, 1), -3);
            due("the other one, fill(1, 100)", x.fill(1, 100), 200);
            due("water", x.boiler(0, 1), 200);
        });
    }

    private static void setRation() {
        Sentences.part("Promise 4");
        Sentences.sentence("Sets the ration.", () -> {
            SteamRations x = new SteamRations();
            x.setRation(17);
            due("the ration", x.count(4), 17);
            due("coal before it comes", x.count(1), 50);
            x.run(60);
            due("coal", x.count(1), 67);
            x.run(60);
            due("each shift", x.count(1), 84);
        });
        Sentences.sentence("This is an act.", () -> {
            SteamRations x = new SteamRations();
            x.setRation(2);
            int[] before = Laundries.state(x);
            x.setRation(3);
            isAct(x, before);
        });
        Sentences.sentence("`coal`: 0 to 200", () -> {
            due("setRation(0)", new SteamRations().setRation(0), 40);
            due("setRation(200)", new SteamRations().setRation(200), 40);
        });
        Sentences.sentence("Returns the previous one;", () -> {
            SteamRations x = new SteamRations();
            due("setRation(200)", x.setRation(200), 40);
            due("setRation(0)", x.setRation(0), 200);
            due("setRation(1)", x.setRation(1), 0);
        });
        Sentences.sentence("BAD_VALUE;", () -> {
            for (int coal : new int[] {LOW, -1, 201, HIGH}) {
                due("setRation(" + coal + ")", new SteamRations().setRation(coal), -2);
            }
        });
        Sentences.sentence("NONE if it is so already.", () -> {
            SteamRations x = new SteamRations();
            due("setRation(40)", x.setRation(40), -5);
            x.setRation(0);
            due("setRation(0)", x.setRation(0), -5);
        });
    }

    private static void start() {
        Sentences.part("Promise 5");
        Sentences.sentence("Starts a load in a machine.", () -> {
            SteamRations x = Laundries.withPressure95();
            x.start(2, 1);
            due("machine 2", Laundries.machine(x, 2), 1, 6, 0);
            due("loads", x.count(5), 1);
            due("started", x.count(7), 1);
            due("no steam is taken before a tick", x.count(12), 95);
        });
        Sentences.sentence("This is an act.", () -> {
            SteamRations x = Laundries.withPressure95();
            x.start(0, 2);
            int[] before = Laundries.state(x);
            x.start(3, 0);
            isAct(x, before);
        });
        Sentences.sentence("`machine`: 0 to 3", () -> {
            for (int machine = 0; machine <= 3; machine++) {
                SteamRations x = Laundries.withPressure11();
                due("start(" + machine + ", 0)", x.start(machine, 0), 4);
                due("the machine", Laundries.machine(x, machine), 0, 4, 0);
            }
        });
        Sentences.sentence("`kind`: 0 to 2", () -> {
            for (int kind = 0; kind <= 2; kind++) {
                SteamRations x = Laundries.withPressure95();
                x.start(1, kind);
                due("the kind", x.machine(1, 0), kind);
            }
        });
        Sentences.sentence("Returns its ticks;", () -> {
            SteamRations x = Laundries.withPressure140();
            due("start(3, 2)", x.start(3, 2), 9);
            due("start(0, 1)", x.start(0, 1), 6);
            due("start(1, 0)", x.start(1, 0), 4);
        });
        Sentences.sentence("UNKNOWN (machine or kind);", () -> {
            for (int bad : new int[] {LOW, -1, 4, HIGH}) {
                due("start(" + bad + ", 0)", Laundries.withPressure95().start(bad, 0), -1);
                due("start(0, " + bad + ")", Laundries.withPressure95().start(0, bad), -1);
                due("start(" + bad + ", " + bad + ")", new SteamRations().start(bad, bad), -1);
            }
            due("start(0, 3)", Laundries.withPressure95().start(0, 3), -1);
        });
        Sentences.sentence("NOT_STARTED minus the reason if it is not started.", () -> {
            SteamRations x = new SteamRations();
            due("no pressure, start(0, 0)", x.start(0, 0), -12);
            x.setFire(0, 4);
            x.run(1);
            x.setFire(0, 0);
            due("too little, start(0, 2)", x.start(0, 2), -13);
            due("enough, start(0, 0)", x.start(0, 0), 4);
            due("not empty, start(0, 0)", x.start(0, 0), -11);
            due("started", x.count(7), 1);
        });
    }

    private static void queue() {
        Sentences.part("Promise 6");
        Sentences.sentence("A load comes to the end of the line.", () -> {
            SteamRations x = Laundries.withPressure95();
            x.queue(2);
            x.queue(0);
            x.queue(1);
            due("the line", Laundries.line(x), 2, 0, 1);
            due("none is started before a tick", x.count(7), 0);
        });
        Sentences.sentence("This is an act.", () -> {
            SteamRations x = new SteamRations();
            x.queue(2);
            int[] before = Laundries.state(x);
            x.queue(1);
            isAct(x, before);
        });
        Sentences.sentence("`kind`: 0 to 2", () -> {
            SteamRations x = new SteamRations();
            for (int kind = 0; kind <= 2; kind++) {
                x.queue(kind);
                due("line(" + kind + ")", x.line(kind), kind);
            }
        });
        Sentences.sentence("Returns its place in the line, from 0;", () -> {
            SteamRations x = new SteamRations();
            for (int place = 0; place <= 11; place++) {
                due("queue(0)", x.queue(0), place);
            }
            x.unqueue(4);
            x.unqueue(4);
            due("after two have left, queue(0)", x.queue(0), 10);
        });
        Sentences.sentence("UNKNOWN;", () -> {
            for (int kind : new int[] {LOW, -1, 3, HIGH}) {
                due("queue(" + kind + ")", new SteamRations().queue(kind), -1);
                due("queue(" + kind + ") of a full line", Laundries.withFullLine().queue(kind), -1);
            }
        });
        Sentences.sentence("FULL if there are 12.", () -> {
            SteamRations x = Laundries.withFullLine();
            x.unqueue(11);
            due("there are 11, queue(1)", x.queue(1), 11);
            due("there are 12, queue(1)", x.queue(1), -3);
            due("count(6)", x.count(6), 12);
        });
    }

    private static void unqueue() {
        Sentences.part("Promise 7");
        Sentences.sentence("A load leaves the line.", () -> {
            SteamRations x = Laundries.withFullLine();
            x.unqueue(4);
            due("one of the middle", Laundries.line(x), 0, 1, 2, 0, 2, 0, 1, 2, 0, 1, 2);
            x.unqueue(10);
            due("the last one", Laundries.line(x), 0, 1, 2, 0, 2, 0, 1, 2, 0, 1);
            x.unqueue(0);
            due("the first one", Laundries.line(x), 1, 2, 0, 2, 0, 1, 2, 0, 1);
            due("it is not one that is taken out", x.count(10), 0);
            SteamRations single = new SteamRations();
            single.queue(1);
            single.unqueue(0);
            due("the only one", Laundries.line(single));
        });
        Sentences.sentence("This is an act.", () -> {
            SteamRations x = Laundries.withFullLine();
            int[] before = Laundries.state(x);
            x.unqueue(5);
            isAct(x, before);
        });
        Sentences.sentence("`place`: a place in the line", () -> {
            for (int place = 0; place <= 11; place++) {
                due("unqueue(" + place + ")", Laundries.withFullLine().unqueue(place), place % 3);
            }
        });
        Sentences.sentence("Returns its kind;", () -> {
            SteamRations x = new SteamRations();
            x.queue(2);
            x.queue(0);
            x.queue(1);
            due("unqueue(1)", x.unqueue(1), 0);
            due("unqueue(1)", x.unqueue(1), 1);
            due("unqueue(0)", x.unqueue(0), 2);
        });
        Sentences.sentence("UNKNOWN.", () -> {
            SteamRations x = new SteamRations();
            due("an empty line, unqueue(0)", x.unqueue(0), -1);
            x.queue(0);
            x.queue(0);
            for (int place : new int[] {LOW, -1, 2, 11, 12, HIGH}) {
                due("unqueue(" + place + ")", x.unqueue(place), -1);
            }
            due("a full line, unqueue(12)", Laundries.withFullLine().unqueue(12), -1);
        });
    }

    private static void takeOut() {
        Sentences.part("Promise 8");
        Sentences.sentence("Takes a load out of a machine, unwashed.", () -> {
            SteamRations x = Laundries.withPressure95();
            x.start(0, 0);
            x.start(3, 2);
            x.takeOut(3);
            due("machine 3", Laundries.machine(x, 3), -5, 0, 0);
            due("machine 0", Laundries.machine(x, 0), 0, 4, 0);
            due("taken out", x.count(10), 1);
            due("in machines", x.count(5), 1);
            due("washed, spoiled, worth", x.count(8) + x.count(9) + x.count(11), 0);
            x.run(1);
            due("it needs no steam any more", x.count(12), 91);
            due("its machine takes another one, start(3, 1)", x.start(3, 1), 6);
        });
        Sentences.sentence("This is an act.", () -> {
            SteamRations x = Laundries.withWaits();
            int[] before = Laundries.state(x);
            x.takeOut(0);
            isAct(x, before);
        });
        Sentences.sentence("`machine`: 0 to 3", () -> {
            for (int machine = 0; machine <= 3; machine++) {
                SteamRations x = Laundries.withPressure95();
                x.start(machine, 1);
                due("takeOut(" + machine + ")", x.takeOut(machine), 6);
            }
        });
        Sentences.sentence("Returns the ticks that it had left;", () -> {
            for (int ticks = 1; ticks <= 8; ticks++) {
                SteamRations x = Laundries.withPressure95();
                x.start(1, 2);
                x.run(ticks);
                due("takeOut(1) after " + ticks + " ticks", x.takeOut(1), 9 - ticks);
            }
            due("of one that waited", Laundries.withWaits().takeOut(0), 8);
        });
        Sentences.sentence("UNKNOWN;", () -> {
            for (int machine : new int[] {LOW, -1, 4, HIGH}) {
                due("takeOut(" + machine + ")", Laundries.withAll().takeOut(machine), -1);
            }
        });
        Sentences.sentence("NOT_POSSIBLE if the machine is empty.", () -> {
            SteamRations x = Laundries.withPressure11();
            due("at first, takeOut(1)", x.takeOut(1), -4);
            x.start(1, 0);
            due("another one, takeOut(0)", x.takeOut(0), -4);
            x.run(4);
            due("washed, takeOut(1)", x.takeOut(1), -4);
            SteamRations y = Laundries.withWaits();
            y.run(2);
            due("spoiled, takeOut(0)", y.takeOut(0), -4);
            SteamRations z = Laundries.withWaits();
            z.takeOut(0);
            due("taken out, takeOut(0)", z.takeOut(0), -4);
        });
    }

    private static void run() {
        Sentences.part("Promise 9");
        Sentences.sentence("Lets ticks pass.", () -> {
            SteamRations once = Laundries.withFullLine();
            SteamRations often = Laundries.withFullLine();
            once.setFire(0, 3);
            often.setFire(0, 3);
            once.run(77);
            for (int tick = 1; tick <= 77; tick++) {
                often.run(1);
                due("ticks", often.count(0), tick);
            }
            due("77 ticks at once", Laundries.state(once), Laundries.state(often));
        });
        Sentences.sentence("This is an act.", () -> {
            SteamRations x = Laundries.withAll();
            int[] before = Laundries.state(x);
            x.run(123);
            isAct(x, before);
        });
        Sentences.sentence("`ticks`: 1 to 200", () -> {
            SteamRations x = new SteamRations();
            due("run(1)", x.run(1), 0);
            due("run(200)", x.run(200), 0);
            due("ticks", x.count(0), 201);
        });
        Sentences.sentence("Returns how many loads are washed in them;", () -> {
            SteamRations x = Laundries.withPressure140();
            x.start(0, 0);
            x.start(1, 0);
            x.start(2, 1);
            x.queue(0);
            due("run(3)", x.run(3), 0);
            due("two of three, run(1)", x.run(1), 2);
            due("the third one, and that of the line, run(200)", x.run(200), 2);
            due("none, run(200)", x.run(200), 0);
            due("spoiled ones are not, run(9)", Laundries.withWaits().run(9), 0);
        });
        Sentences.sentence("BAD_VALUE;", () -> {
            for (int ticks : new int[] {LOW, -1, 0, 201, HIGH}) {
                SteamRations x = new SteamRations();
                due("run(" + ticks + ")", x.run(ticks), -2);
                due("ticks", x.count(0), 0);
            }
        });
        Sentences.sentence("FULL if the count of ticks would be more than 99999.", () -> {
            SteamRations x = Laundries.atTick99800();
            due("100000, run(200)", x.run(200), -3);
            due("no tick passes", x.count(0), 99800);
            due("99998, run(198)", x.run(198), 0);
            due("100000, run(2)", x.run(2), -3);
            due("99999, run(1)", x.run(1), 0);
            due("100000, run(1)", x.run(1), -3);
            due("ticks", x.count(0), 99999);
        });
    }

    private static void type() {
        Sentences.part("Promise 10");
        Sentences.sentence("Types a character behind the text.", () -> {
            SteamRations x = new SteamRations();
            Laundries.text(x, "l2");
            due("perform()", x.perform(), 1);
            due("the line", Laundries.line(x), 2);
            x.type(',');
            x.type('l');
            x.type('0');
            due("perform()", x.perform(), 2);
            due("the line", Laundries.line(x), 2, 2, 0);
        });
        Sentences.sentence("`character`: any character", () -> {
            for (char character : new char[] {0, '\n', ' ', 127, 128, 255, 256, '\ud800', '\udc00', '\uffff'}) {
                SteamRations x = new SteamRations();
                due("type(" + (int) character + ")", x.type(character), 1);
                due("perform()", x.perform(), -100);
                Laundries.text(x, "l0");
                due("type(" + (int) character + ")", x.type(character), 3);
                due("perform()", x.perform(), -102);
            }
        });
        Sentences.sentence("Returns the length of the text then;", () -> {
            SteamRations x = new SteamRations();
            for (int length = 1; length <= 80; length++) {
                due("type", x.type('x'), length);
                due("count(15)", x.count(15), length);
            }
        });
        Sentences.sentence("FULL if it has 80 characters.", () -> {
            SteamRations x = new SteamRations();
            Laundries.text(x, "t1,".repeat(26) + "t");
            due("it has 79, type(7)", x.type('7'), 80);
            due("it has 80, type(0)", x.type('0'), -3);
            due("it has 80, type(x)", x.type('x'), -3);
            due("the text is as it was, perform()", x.perform(), 27);
            due("ticks", x.count(0), 33);
            x.clearText();
            due("it has none, type(x)", x.type('x'), 1);
        });
    }

    private static void clearText() {
        Sentences.part("Promise 11");
        Sentences.sentence("Empties the text.", () -> {
            SteamRations x = new SteamRations();
            Laundries.text(x, "l0,l0");
            x.clearText();
            due("count(15)", x.count(15), 0);
            due("perform()", x.perform(), -100);
            x.type('l');
            x.type('1');
            due("only what was typed since, perform()", x.perform(), 1);
            due("the line", Laundries.line(x), 1);
        });
        Sentences.sentence("Returns the length that it had.", () -> {
            SteamRations x = new SteamRations();
            due("clearText()", x.clearText(), 0);
            Laundries.text(x, "x".repeat(80));
            due("clearText()", x.clearText(), 80);
            due("clearText()", x.clearText(), 0);
            x.type('x');
            due("clearText()", x.clearText(), 1);
        });
    }

    private static void perform() {
        Sentences.part("Promise 12");
        Sentences.sentence("Does the commands of the text, which stays, one after the other;", () -> {
            SteamRations x = new SteamRations();
            due("perform()", Laundries.performed(x, "f0:4,w1:9,t1,f0:0,m2:0,l1,t1"), 7);
            due("boiler 0", Laundries.boiler(x, 0), 0, 96, 8, 0, 0);
            due("boiler 1", Laundries.boiler(x, 1), 0, 109, 0, 0, 0);
            due("machine 2", Laundries.machine(x, 2), 0, 3, 0);
            due("the line", Laundries.line(x), 1);
            due("the text stays", x.count(15), 28);
            due("it is done again, as far as it goes", x.perform(), -4);
            due("the wool is in machine 2", Laundries.stop(x), 4, -11);
        });
        Sentences.sentence("all of them, or none.", () -> {
            SteamRations x = Laundries.withAll();
            int[] before = Laundries.state(x);
            due("the last one is stopped, perform()", Laundries.performed(x, "f0:4,w1:9,l1,t99,f1:2,w0:150"), -4);
            due("none is done", Laundries.state(x), before);
            due("the first one is stopped, perform()", Laundries.performed(x, "f1:2,l1,t99"), -4);
            due("none is done", Laundries.state(x), before);
        });
        Sentences.sentence("This is one act.", () -> {
            SteamRations x = new SteamRations();
            x.fill(0, 1);
            int[] before = Laundries.state(x);
            due("perform()", Laundries.performed(x, "l0,l1,l2,t9,f0:3,w0:5"), 6);
            due("count(14)", x.count(14), 2);
            isAct(x, before);
            due("of commands that do nothing, too, perform()", Laundries.performed(x, "f0:0"), 1);
            due("count(14)", x.count(14), 2);
        });
        Sentences.sentence("One whose method would return an error stops it;", () -> {
            String[] texts = {"l0,w0:101", "t1,m0:0", "f0:4,t1,f0:0,m1:1", "f0:4,t1,m1:0,m1:0", "f1:5,t6,f1:0",
                "l0,l0,l0,l0,l0,l0,l0,l0,l0,l0,l0,l0,l0"};
            int[] numbers = {1, 1, 3, 3, 2, 12};
            int[] errors = {-3, -12, -13, -11, -4, -3};
            for (int i = 0; i < texts.length; i++) {
                SteamRations x = new SteamRations();
                due("perform() of " + texts[i], Laundries.performed(x, texts[i]), -4);
                due("the stop", Laundries.stop(x), numbers[i], errors[i]);
                due("nothing is done", Laundries.state(x), Laundries.state(new SteamRations()));
            }
            SteamRations late = Laundries.atTick99800();
            due("perform() of t100,t99", Laundries.performed(late, "t100,t99"), 2);
            due("perform() of t1", Laundries.performed(late, "t1"), -4);
            due("the stop", Laundries.stop(late), 0, -3);
        });
        Sentences.sentence("one that would return NONE does nothing.", () -> {
            SteamRations x = new SteamRations();
            due("perform()", Laundries.performed(x, "f0:0,f0:3,f0:3,l1"), 4);
            due("fire", x.boiler(0, 0), 3);
            due("the line", Laundries.line(x), 1);
            due("stopped", Laundries.stop(x), -5, -5);
        });
    }

    private static void performAnswers() {
        Sentences.sentence("Returns how many commands there are;", () -> {
            for (int commands = 1; commands <= 27; commands++) {
                SteamRations x = new SteamRations();
                due("perform()", Laundries.performed(x, "t1,".repeat(commands - 1) + "t2"), commands);
                due("ticks", x.count(0), commands + 1);
            }
        });
        Sentences.sentence("-100 minus the fault of the text if it has one (which is an error);", () -> {
            SteamRations x = new SteamRations();
            due("the empty text", x.perform(), -100);
            due("l0,f0:6", Laundries.performed(x, "l0,f0:6"), -106);
            due("80 characters", Laundries.performed(x, "f0:0," + "l0,".repeat(25)), -180);
            due("an error records nothing", x.count(14), 0);
            due("and changes nothing", Laundries.state(x), Laundries.state(new SteamRations()));
            due("a fault goes ahead of a command that would be stopped", Laundries.performed(x, "m0:0,x"), -105);
            due("and nothing is stopped", Laundries.stop(x), -5, -5);
        });
        Sentences.sentence("NOT_POSSIBLE if any is stopped.", () -> {
            SteamRations x = new SteamRations();
            due("the first one", Laundries.performed(x, "m0:0,l0"), -4);
            due("the last one", Laundries.performed(x, "l0,m0:0"), -4);
            due("the only one", Laundries.performed(x, "m0:0"), -4);
            due("count(14)", x.count(14), 0);
        });
    }

    private static void stopped() {
        Sentences.part("Promise 13");
        Sentences.sentence("Tells of the latest stop of perform().", () -> {
            SteamRations x = new SteamRations();
            Laundries.performed(x, "l0,w0:101");
            due("the first stop", Laundries.stop(x), 1, -3);
            Laundries.performed(x, "m0:0");
            due("the next stop", Laundries.stop(x), 0, -12);
            due("one without a stop", Laundries.performed(x, "l0"), 1);
            due("the latest stop stays", Laundries.stop(x), 0, -12);
            due("one with a fault", Laundries.performed(x, "l3"), -101);
            due("the latest stop stays", Laundries.stop(x), 0, -12);
        });
        Sentences.sentence("`what`: 0 for the number of the command in its text, from 0,", () -> {
            for (int number = 0; number <= 25; number++) {
                SteamRations x = new SteamRations();
                due("perform()", Laundries.performed(x, "t1,".repeat(number) + "m0:0"), -4);
                due("stopped(0)", x.stopped(0), number);
            }
        });
        Sentences.sentence("1 for the error that the method would have returned", () -> {
            SteamRations x = Laundries.withPressure11();
            Laundries.performed(x, "w1:101");
            due("as fill()", x.stopped(1), -3);
            Laundries.performed(x, "m0:2");
            due("as start()", x.stopped(1), -13);
            Laundries.performed(x, "m0:0,m0:0");
            due("as start()", x.stopped(1), -11);
            Laundries.performed(x, "t2,m0:0");
            due("as start()", x.stopped(1), -12);
            Laundries.performed(x, "f0:5,t5,f0:1");
            due("as setFire()", x.stopped(1), -4);
        });
        Sentences.sentence("Returns the number (an error as it is);", () -> {
            SteamRations x = new SteamRations();
            Laundries.performed(x, "l0,t1,m3:2");
            due("stopped(0)", x.stopped(0), 2);
            due("stopped(1)", x.stopped(1), SteamRations.NOT_STARTED - 2);
            due("again, stopped(0)", x.stopped(0), 2);
        });
        Sentences.sentence("BAD_VALUE;", () -> {
            SteamRations x = new SteamRations();
            for (int what : new int[] {LOW, -1, 2, HIGH}) {
                due("none yet, stopped(" + what + ")", x.stopped(what), -2);
            }
            Laundries.performed(x, "m0:0");
            for (int what : new int[] {LOW, -1, 2, HIGH}) {
                due("stopped(" + what + ")", x.stopped(what), -2);
            }
        });
        Sentences.sentence("NONE if none was stopped yet.", () -> {
            SteamRations x = new SteamRations();
            due("stopped", Laundries.stop(x), -5, -5);
            due("perform()", Laundries.performed(x, "l0"), 1);
            due("perform() of a fault", Laundries.performed(x, "l9"), -101);
            due("a call that is no order, takeOut(0)", x.takeOut(0), -4);
            due("stopped", Laundries.stop(x), -5, -5);
        });
    }

    private static void undo() {
        Sentences.part("Promise 14");
        Sentences.sentence("Removes and restores the latest state of the history.", () -> {
            SteamRations x = Laundries.withPressure11();
            int[] first = Laundries.state(x);
            x.start(0, 0);
            int[] second = Laundries.state(x);
            x.run(2);
            x.undo();
            due("undo of run", Laundries.state(x), second);
            x.undo();
            due("undo of start", Laundries.state(x), first);
            due("what was undone is not brought back", x.count(14), 2);
        });
        Sentences.sentence("Returns the number of states that are left;", () -> {
            SteamRations x = new SteamRations();
            for (int act = 0; act < 5; act++) {
                x.queue(0);
            }
            for (int left = 3; left >= 0; left--) {
                due("undo()", x.undo(), left);
                due("count(14)", x.count(14), left);
            }
        });
        Sentences.sentence("NONE if the history is empty.", () -> {
            SteamRations x = new SteamRations();
            due("undo()", x.undo(), -5);
            x.queue(0);
            due("undo()", x.undo(), 0);
            due("undo()", x.undo(), -5);
            due("count(6)", x.count(6), 0);
        });
    }

    private static void keep() {
        Sentences.part("Promise 15");
        Sentences.sentence("Takes a snapshot of the state,", () -> {
            SteamRations x = Laundries.withAll();
            int[] state = Laundries.state(x);
            x.keep();
            due("keep changes nothing", Laundries.state(x), state);
            x.run(150);
            x.setRation(1);
            x.restore();
            due("what was kept", Laundries.state(x), state);
        });
        Sentences.sentence("in place of the one that was.", () -> {
            SteamRations x = new SteamRations();
            x.keep();
            x.queue(2);
            x.keep();
            x.queue(1);
            x.restore();
            due("the line", Laundries.line(x), 2);
        });
        Sentences.sentence("Returns the count of ticks.", () -> {
            SteamRations x = new SteamRations();
            due("keep()", x.keep(), 0);
            x.run(200);
            due("keep()", x.keep(), 200);
        });
    }

    private static void restore() {
        Sentences.part("Promise 16");
        Sentences.sentence("Restores the state of the snapshot, which stays.", () -> {
            SteamRations x = Laundries.withWaits();
            int[] kept = Laundries.state(x);
            x.keep();
            for (int time = 0; time < 3; time++) {
                x.setFire(1, 5);
                x.run(8 + time);
                x.takeOut(0);
                x.restore();
                due("what was kept", Laundries.state(x), kept);
            }
        });
        Sentences.sentence("This is an act.", () -> {
            SteamRations x = new SteamRations();
            x.keep();
            x.queue(2);
            int[] before = Laundries.state(x);
            x.restore();
            due("count(14)", x.count(14), 2);
            isAct(x, before);
            x.undo();
            due("one that changes nothing is one, too, restore()", x.restore(), 0);
            due("count(14)", x.count(14), 1);
        });
        Sentences.sentence("Returns the count of ticks then;", () -> {
            SteamRations x = new SteamRations();
            x.run(70);
            x.keep();
            x.run(7);
            due("restore()", x.restore(), 70);
            due("count(0)", x.count(0), 70);
            SteamRations y = new SteamRations();
            y.keep();
            y.run(7);
            due("restore()", y.restore(), 0);
        });
        Sentences.sentence("NONE if there is no snapshot.", () -> {
            SteamRations x = new SteamRations();
            x.run(5);
            due("restore()", x.restore(), -5);
            due("count(0)", x.count(0), 5);
            due("count(14)", x.count(14), 1);
            x.keep();
            due("restore()", x.restore(), 5);
        });
    }
}
