import java.util.function.Supplier;

/** The sentences of the promises 17 to 24, the calls that only tell, in the document's order. */
final class TellSentences {
    private static final int LOW = Laundries.LOW;
    private static final int HIGH = Laundries.HIGH;

    private TellSentences() {
    }

    static void test() {
        boiler();
        machine();
        line();
        reason();
        doneIn();
        ifFires();
        whatOfIfFires();
        bestFires();
        countOfCoal();
        countOfLoads();
        countOfTheRest();
    }

    private static void due(String call, long got, long want) {
        Expect.due(call, got, want);
    }

    private static void due(String call, int[] got, int... want) {
        Expect.due(call, got, want);
    }

    private static void boiler() {
        Sentences.part("Promise 17");
        Sentences.sentence("`boiler`: 0 or 1", () -> {
            SteamRations x = new SteamRations();
            x.setFire(0, 2);
            x.setFire(1, 4);
            due("boiler(0, 0)", x.boiler(0, 0), 2);
            due("boiler(1, 0)", x.boiler(1, 0), 4);
        });
        Sentences.sentence("`what`: 0 for its fire,", () -> {
            SteamRations x = new SteamRations();
            x.setFire(1, 5);
            due("boiler(1, 0)", x.boiler(1, 0), 5);
            x.run(6);
            due("as it has stopped, boiler(1, 0)", x.boiler(1, 0), 0);
        });
        Sentences.sentence("1 for its water,", () -> {
            SteamRations x = new SteamRations();
            x.setFire(1, 3);
            x.fill(1, 50);
            x.run(4);
            due("boiler(1, 1)", x.boiler(1, 1), 138);
            due("boiler(0, 1)", x.boiler(0, 1), 100);
        });
        Sentences.sentence("2 for its pressure,", () -> {
            SteamRations x = new SteamRations();
            x.setFire(1, 3);
            x.run(4);
            due("boiler(1, 2)", x.boiler(1, 2), 32);
            due("boiler(0, 2)", x.boiler(0, 2), 0);
        });
        Sentences.sentence("3 for the ticks of its stop that are left (0 if it is not stopped),", () -> {
            SteamRations x = Laundries.withStop();
            due("boiler(0, 3)", x.boiler(0, 3), 10);
            due("not stopped, boiler(1, 3)", x.boiler(1, 3), 0);
            x.run(4);
            due("boiler(0, 3)", x.boiler(0, 3), 6);
            x.run(6);
            due("boiler(0, 3)", x.boiler(0, 3), 0);
        });
        Sentences.sentence("4 for its safety stops so far", () -> {
            SteamRations x = Laundries.withStop();
            due("boiler(0, 4)", x.boiler(0, 4), 1);
            x.run(10);
            x.setFire(0, 5);
            x.run(4);
            due("the coal is burnt, boiler(0, 4)", x.boiler(0, 4), 2);
            due("boiler(1, 4)", x.boiler(1, 4), 0);
        });
        Sentences.sentence("Returns the number;", () -> {
            SteamRations x = Laundries.withStop();
            x.setFire(1, 2);
            x.run(1);
            due("boiler 0", Laundries.boiler(x, 0), 0, 70, 29, 9, 1);
            due("boiler 1", Laundries.boiler(x, 1), 2, 98, 5, 0, 0);
        });
        Sentences.sentence("UNKNOWN;", () -> {
            for (int boiler : new int[] {LOW, -1, 2, HIGH}) {
                for (int what = -1; what <= 5; what++) {
                    due("boiler(" + boiler + ", " + what + ")", new SteamRations().boiler(boiler, what), -1);
                }
            }
        });
        Sentences.sentence("BAD_VALUE.", () -> {
            for (int what : new int[] {LOW, -1, 5, HIGH}) {
                due("boiler(0, " + what + ")", new SteamRations().boiler(0, what), -2);
                due("boiler(1, " + what + ")", new SteamRations().boiler(1, what), -2);
            }
        });
    }

    private static void machine() {
        Sentences.part("Promise 18");
        Sentences.sentence("`machine`: 0 to 3", () -> {
            SteamRations x = Laundries.withPressure140();
            for (int machine = 0; machine <= 3; machine++) {
                x.start(machine, machine % 3);
                due("machine(" + machine + ", 0)", x.machine(machine, 0), machine % 3);
            }
        });
        Sentences.sentence("`what`: 0 for the kind of its load (NONE if it is empty),", () -> {
            SteamRations x = Laundries.withPressure95();
            due("machine(3, 0)", x.machine(3, 0), -5);
            x.start(3, 2);
            due("machine(3, 0)", x.machine(3, 0), 2);
            x.takeOut(3);
            due("taken out, machine(3, 0)", x.machine(3, 0), -5);
            x.start(3, 0);
            due("machine(3, 0)", x.machine(3, 0), 0);
            x.run(4);
            due("washed, machine(3, 0)", x.machine(3, 0), -5);
        });
        Sentences.sentence("1 for the ticks that are left (0 if it is empty),", () -> {
            SteamRations x = Laundries.withPressure95();
            due("machine(3, 1)", x.machine(3, 1), 0);
            x.start(3, 1);
            for (int left = 6; left >= 0; left--) {
                due("machine(3, 1)", x.machine(3, 1), left);
                x.run(1);
            }
            x.start(2, 1);
            x.takeOut(2);
            due("taken out, machine(2, 1)", x.machine(2, 1), 0);
        });
        Sentences.sentence("2 for how often it waited (0 if it is empty)", () -> {
            SteamRations x = Laundries.withWaits();
            due("machine(0, 2)", x.machine(0, 2), 1);
            x.run(1);
            due("machine(0, 2)", x.machine(0, 2), 2);
            x.run(1);
            due("spoiled, machine(0, 2)", x.machine(0, 2), 0);
            SteamRations y = Laundries.withWaits();
            y.takeOut(0);
            due("taken out, machine(0, 2)", y.machine(0, 2), 0);
            SteamRations z = Laundries.withWaits();
            z.run(60);
            z.setFire(0, 4);
            z.run(2);
            z.start(0, 2);
            due("a new one, machine(0, 2)", z.machine(0, 2), 0);
        });
        Sentences.sentence("Returns the number;", () -> {
            SteamRations x = Laundries.withPressure95();
            x.start(1, 1);
            x.run(2);
            due("machine 1", Laundries.machine(x, 1), 1, 4, 0);
            due("machine 0", Laundries.machine(x, 0), -5, 0, 0);
        });
        Sentences.sentence("UNKNOWN;", () -> {
            for (int machine : new int[] {LOW, -1, 4, HIGH}) {
                for (int what = -1; what <= 3; what++) {
                    due("machine(" + machine + ", " + what + ")", new SteamRations().machine(machine, what), -1);
                }
            }
        });
        Sentences.sentence("BAD_VALUE.", () -> {
            for (int what : new int[] {LOW, -1, 3, HIGH}) {
                due("an empty one, machine(3, " + what + ")", new SteamRations().machine(3, what), -2);
                due("machine(2, " + what + ")", Laundries.withAll().machine(2, what), -2);
            }
        });
    }

    /** Tick 99993: fire 4 in boiler 0, a linen that ends at tick 100002. */
    private static SteamRations beforeTheLastTick() {
        SteamRations x = Laundries.atTick99800();
        due("perform()", Laundries.performed(x, "t190,f0:4,t3"), 3);
        due("beyond tick 99999, reason(2)", x.reason(2), 0);
        due("start(1, 2)", x.start(1, 2), 9);
        return x;
    }

    private static void line() {
        Sentences.part("Promise 19");
        Sentences.sentence("`place`: a place in the line, from 0", () -> {
            SteamRations x = Laundries.withFullLine();
            for (int place = 0; place <= 11; place++) {
                due("line(" + place + ")", x.line(place), place % 3);
            }
        });
        Sentences.sentence("Returns the kind of the load;", () -> {
            SteamRations x = Laundries.withPressure95();
            x.queue(2);
            x.queue(1);
            x.queue(0);
            due("line(0)", x.line(0), 2);
            due("line(2)", x.line(2), 0);
            x.run(1);
            due("the first one was started, line(0)", x.line(0), 1);
            x.unqueue(0);
            due("another one has left, line(0)", x.line(0), 0);
        });
        Sentences.sentence("BAD_VALUE if place is negative;", () -> {
            for (int place : new int[] {LOW, -2, -1}) {
                due("line(" + place + ")", new SteamRations().line(place), -2);
                due("line(" + place + ") of a full line", Laundries.withFullLine().line(place), -2);
            }
        });
        Sentences.sentence("NONE if there are not so many.", () -> {
            SteamRations x = new SteamRations();
            due("line(0)", x.line(0), -5);
            x.queue(2);
            x.queue(2);
            for (int place : new int[] {2, 3, 11, 12, 13, HIGH}) {
                due("line(" + place + ")", x.line(place), -5);
            }
            x.unqueue(0);
            due("one has left, line(1)", x.line(1), -5);
            for (int place : new int[] {12, 13, HIGH}) {
                due("line(" + place + ") of a full line", Laundries.withFullLine().line(place), -5);
            }
        });
    }

    private static void reason() {
        Sentences.part("Promise 20");
        Sentences.sentence("Tells why a load would not be started in the lowest empty machine now.", () -> {
            SteamRations x = Laundries.withPressure95();
            x.start(0, 0);
            due("machine 0 is not empty, but another one is, reason(1)", x.reason(1), 0);
            x.start(1, 0);
            x.start(2, 0);
            x.start(3, 0);
            due("none is, reason(1)", x.reason(1), 1);
            int[] before = Laundries.everything(x);
            x.takeOut(0);
            due("the lowest one is, reason(1)", x.reason(1), 0);
            x.undo();
            x.reason(2);
            before[49] = x.count(14);
            due("it changes nothing", Laundries.everything(x), before);
        });
        Sentences.sentence("`kind`: 0 to 2", () -> {
            SteamRations x = Laundries.burnt(5, 0, 3);
            x.run(13);
            due("pressure", x.count(12), 29);
            due("reason(0)", x.reason(0), 0);
            due("reason(1)", x.reason(1), 0);
            due("reason(2)", x.reason(2), 3);
        });
        Sentences.sentence("Returns the reason;", () -> {
            SteamRations x = new SteamRations();
            due("no pressure, reason(0)", x.reason(0), 2);
            x.setFire(0, 4);
            x.run(1);
            x.setFire(0, 0);
            due("too little, reason(1)", x.reason(1), 3);
            SteamRations y = Laundries.withPressure140();
            for (int machine = 0; machine < 4; machine++) {
                y.start(machine, 0);
            }
            due("no machine, reason(0)", y.reason(0), 1);
        });
        Sentences.sentence("0 if it would be;", () -> {
            SteamRations x = Laundries.withPressure11();
            due("reason(0)", x.reason(0), 0);
            due("start(0, 0)", x.start(0, 0), 4);
        });
        Sentences.sentence("UNKNOWN.", () -> {
            for (int kind : new int[] {LOW, -1, 3, HIGH}) {
                due("reason(" + kind + ")", Laundries.withPressure140().reason(kind), -1);
                due("no pressure, reason(" + kind + ")", new SteamRations().reason(kind), -1);
            }
        });
    }

    private static void doneIn() {
        Sentences.part("Promise 21");
        Sentences.sentence("Tells in how many ticks all machines are empty and the line, too, "
            + "if only ticks pass.", () -> {
            SteamRations x = Laundries.withPressure140();
            x.start(2, 1);
            due("a cotton, doneIn()", x.doneIn(), 6);
            x.queue(0);
            x.queue(1);
            due("a wool of tick 1, a cotton of tick 2, doneIn()", x.doneIn(), 8);
            x.queue(0);
            x.queue(1);
            int[] before = Laundries.everything(x);
            due("a cotton of tick 5, when a machine is empty, doneIn()", x.doneIn(), 11);
            due("it changes nothing", Laundries.everything(x), before);
            for (int left = 11; left >= 0; left--) {
                due("doneIn()", x.doneIn(), left);
                due("all is done", x.count(5) + x.count(6) == 0 ? 1 : 0, left == 0 ? 1 : 0);
                x.run(1);
            }
            due("a load that is spoiled, doneIn()", Laundries.withWaits().doneIn(), 2);
        });
        Sentences.sentence("Returns the ticks, 0 if it is so, up to 400;", () -> {
            SteamRations x = new SteamRations();
            due("doneIn()", x.doneIn(), 0);
            x.queue(0);
            x.unqueue(0);
            due("doneIn()", x.doneIn(), 0);
            // No fire burns longer than 200 ticks, for its water, so none can be much longer than this.
            SteamRations slow = Laundries.withSlowLine();
            due("doneIn()", slow.doneIn(), 203);
            slow.run(200);
            due("doneIn()", slow.doneIn(), 3);
            slow.run(2);
            due("loads", slow.count(5), 1);
            slow.run(1);
            due("loads", slow.count(5), 0);
        });
        Sentences.sentence("NONE if it is not by then.", () -> {
            SteamRations x = new SteamRations();
            x.queue(0);
            due("the line waits for steam, doneIn()", x.doneIn(), -5);
            SteamRations y = Laundries.withPressure11();
            y.start(0, 0);
            y.queue(0);
            due("the machine will be empty, but not the line, doneIn()", y.doneIn(), -5);
            y.unqueue(0);
            due("without it, doneIn()", y.doneIn(), 4);
            due("beyond tick 99999, doneIn()", beforeTheLastTick().doneIn(), 9);
        });
    }

    private static void ifFires() {
        Sentences.part("Promise 22");
        Sentences.sentence("Tells what other fires would bring, as if they were set now", () -> {
            for (int fires = 0; fires < 36; fires += 5) {
                for (int ticks : new int[] {1, 13, 60, 200}) {
                    asRun(() -> burningAndLine(), fires / 6, fires % 6, ticks);
                }
            }
            SteamRations x = Laundries.withAll();
            int[] before = Laundries.everything(x);
            x.ifFires(5, 5, 200, 0);
            due("it changes nothing", Laundries.everything(x), before);
        });
        Sentences.sentence("(of a boiler that is stopped, too).", () -> {
            SteamRations x = Laundries.withStop();
            due("fire 4 in its stop, coal", x.ifFires(4, 0, 10, 2), 0);
            due("fire 4 in the tick after it, coal", x.ifFires(4, 0, 11, 2), 4);
            due("fire 4 of the other one, coal", x.ifFires(4, 1, 11, 2), 15);
            due("its fire is not set", x.boiler(0, 0), 0);
            due("it is stopped still", x.boiler(0, 3), 10);
        });
        Sentences.sentence("`first`: 0 to 5: that of the boiler 0", () -> {
            for (int first = 0; first <= 5; first++) {
                due("of both, coal", new SteamRations().ifFires(first, 0, 3, 2), 3 * first);
                due("boiler 0 is stopped, coal", Laundries.withStop().ifFires(first, 0, 4, 2), 0);
            }
        });
        Sentences.sentence("`second`: 0 to 5: that of the boiler 1", () -> {
            for (int second = 0; second <= 5; second++) {
                due("of both, coal", new SteamRations().ifFires(0, second, 3, 2), 3 * second);
                due("boiler 0 is stopped, coal", Laundries.withStop().ifFires(0, second, 4, 2), 4 * second);
            }
        });
        Sentences.sentence("`ticks`: 1 to 200", () -> {
            SteamRations x = new SteamRations();
            due("ifFires(1, 0, 1, 2)", x.ifFires(1, 0, 1, 2), 1);
            SteamRations slow = Laundries.withSlowLine();
            due("ifFires(1, 0, 199, 2)", slow.ifFires(1, 0, 199, 2), 199);
            due("ifFires(1, 0, 200, 2)", slow.ifFires(1, 0, 200, 2), 200);
        });
    }

    /** Fires 2 and 3, a cotton in machine 0 and four loads in the line, after 5 ticks. */
    private static SteamRations burningAndLine() {
        SteamRations x = new SteamRations();
        due("perform()", Laundries.performed(x, "f0:2,f1:3,t5,m0:1,l2,l0,l2,l1"), 8);
        return x;
    }

    /** What the fires bring is what is counted if they are set and the ticks run. */
    private static void asRun(Supplier<SteamRations> laundry, int first, int second, int ticks) {
        SteamRations asked = laundry.get();
        SteamRations x = laundry.get();
        int[] before = Laundries.counts(x);
        int stops = x.boiler(0, 4) + x.boiler(1, 4);
        x.setFire(0, first);
        x.setFire(1, second);
        x.run(ticks);
        String call = "ifFires(" + first + ", " + second + ", " + ticks + ", ";
        due(call + "0)", asked.ifFires(first, second, ticks, 0), x.count(8) - before[8]);
        due(call + "1)", asked.ifFires(first, second, ticks, 1), x.count(9) - before[9]);
        due(call + "2)", asked.ifFires(first, second, ticks, 2), x.count(2) - before[2]);
        due(call + "3)", asked.ifFires(first, second, ticks, 3), x.boiler(0, 4) + x.boiler(1, 4) - stops);
    }

    private static void whatOfIfFires() {
        Sentences.sentence("`what`: 0 for loads washed in these ticks,", () -> {
            SteamRations x = Laundries.withPressure95();
            x.start(0, 0);
            x.run(4);
            x.start(0, 0);
            x.queue(0);
            due("one was washed before, ifFires(0, 0, 3, 0)", x.ifFires(0, 0, 3, 0), 0);
            due("ifFires(0, 0, 4, 0)", x.ifFires(0, 0, 4, 0), 1);
            due("ifFires(0, 0, 5, 0)", x.ifFires(0, 0, 5, 0), 2);
            due("ifFires(0, 0, 200, 0)", x.ifFires(0, 0, 200, 0), 2);
        });
        Sentences.sentence("1 for spoiled ones,", () -> {
            SteamRations x = Laundries.withWaits();
            due("ifFires(0, 0, 1, 1)", x.ifFires(0, 0, 1, 1), 0);
            due("ifFires(0, 0, 2, 1)", x.ifFires(0, 0, 2, 1), 1);
            due("with a fire, ifFires(3, 0, 2, 1)", x.ifFires(3, 0, 2, 1), 0);
            x.run(2);
            due("it was spoiled before, ifFires(0, 0, 9, 1)", x.ifFires(0, 0, 9, 1), 0);
        });
        Sentences.sentence("2 for the coal that is burnt,", () -> {
            SteamRations x = Laundries.withPressure11();
            due("none, ifFires(0, 0, 9, 2)", x.ifFires(0, 0, 9, 2), 0);
            due("ifFires(2, 1, 9, 2)", x.ifFires(2, 1, 9, 2), 27);
            due("no more than there is, ifFires(2, 4, 9, 2)", x.ifFires(2, 4, 9, 2), 46);
            due("nor than both have fire for, ifFires(0, 5, 12, 2)", x.ifFires(0, 5, 12, 2), 30);
        });
        Sentences.sentence("3 for safety stops", () -> {
            SteamRations x = new SteamRations();
            x.run(60);
            due("ifFires(5, 0, 5, 3)", x.ifFires(5, 0, 5, 3), 0);
            due("ifFires(5, 0, 6, 3)", x.ifFires(5, 0, 6, 3), 1);
            due("of both, ifFires(5, 5, 6, 3)", x.ifFires(5, 5, 6, 3), 2);
            due("ifFires(0, 5, 6, 3)", x.ifFires(0, 5, 6, 3), 1);
            due("one was before, ifFires(0, 0, 20, 3)", Laundries.withStop().ifFires(0, 0, 20, 3), 0);
        });
        Sentences.sentence("Returns the number;", () -> {
            SteamRations x = Laundries.withPressure95();
            x.queue(0);
            due("ifFires(1, 1, 5, 0)", x.ifFires(1, 1, 5, 0), 1);
            due("ifFires(1, 1, 5, 1)", x.ifFires(1, 1, 5, 1), 0);
            due("ifFires(1, 1, 5, 2)", x.ifFires(1, 1, 5, 2), 10);
            due("ifFires(5, 1, 5, 3)", x.ifFires(5, 1, 5, 3), 1);
            due("beyond tick 99999, ifFires(1, 0, 9, 2)", beforeTheLastTick().ifFires(1, 0, 9, 2), 9);
        });
        Sentences.sentence("BAD_VALUE.", () -> {
            for (int bad : new int[] {LOW, -1, 6, HIGH}) {
                SteamRations x = new SteamRations();
                due("ifFires(" + bad + ", 0, 1, 0)", x.ifFires(bad, 0, 1, 0), -2);
                due("ifFires(0, " + bad + ", 1, 0)", x.ifFires(0, bad, 1, 0), -2);
                due("ifFires(0, 0, 1, " + bad + ")", x.ifFires(0, 0, 1, bad), -2);
            }
            for (int bad : new int[] {LOW, -1, 0, 201, HIGH}) {
                due("ifFires(0, 0, " + bad + ", 0)", new SteamRations().ifFires(0, 0, bad, 0), -2);
            }
            due("ifFires(0, 0, 1, 4)", new SteamRations().ifFires(0, 0, 1, 4), -2);
            due("all are bad", new SteamRations().ifFires(6, 6, 201, 4), -2);
        });
    }

    private static void bestFires() {
        Sentences.part("Promise 23");
        Sentences.sentence("Finds the fires with which, as for ifFires(), the most loads are washed "
            + "in some ticks,", () -> {
            SteamRations x = new SteamRations();
            x.queue(0);
            due("too few ticks for any, bestFires(4)", x.bestFires(4), 0);
            due("it needs 10 pressure in a tick, bestFires(5)", x.bestFires(5), 4);
            x.setFire(0, 5);
            due("whatever burns now, bestFires(5)", x.bestFires(5), 4);
            SteamRations slow = new SteamRations();
            slow.queue(1);
            due("seven ticks of fire 5 will do, bestFires(36)", slow.bestFires(36), 5);
            due("of a boiler that stops then, coal", slow.ifFires(0, 5, 36, 2), 35);
            SteamRations warm = new SteamRations();
            due("perform()", Laundries.performed(warm, "t120,f0:5,t6,l0,l1"), 5);
            due("so it is with boiler 0, which is stopped, bestFires(41)", warm.bestFires(41), 50);
            mostLoadsNotMostCoins();
            SteamRations y = Laundries.withFullLine();
            int[] before = Laundries.everything(y);
            for (int ticks : new int[] {10, 20, 60, 100}) {
                due("bestFires(" + ticks + ")", y.bestFires(ticks), best(y, ticks));
            }
            due("it changes nothing", Laundries.everything(y), before);
            SteamRations stopped = Laundries.withStop();
            stopped.start(0, 1);
            for (int load = 0; load < 4; load++) {
                stopped.queue(2);
            }
            due("a stopped boiler, bestFires(45)", stopped.bestFires(45), best(stopped, 45));
        });
        Sentences.sentence("of several those that burn the least coal,", () -> {
            SteamRations x = new SteamRations();
            due("none to wash, bestFires(100)", x.bestFires(100), 0);
            x.queue(0);
            due("in 9 ticks one coal a tick will do, bestFires(9)", x.bestFires(9), 1);
            due("in 6 it needs two, bestFires(6)", x.bestFires(6), 2);
            SteamRations y = Laundries.withPressure95();
            y.start(0, 2);
            y.setFire(0, 5);
            due("the pressure will do, bestFires(9)", y.bestFires(9), 0);
        });
        Sentences.sentence("of these those with the least fire of the boiler 0,", () -> {
            SteamRations x = new SteamRations();
            x.queue(0);
            due("ifFires(0, 4, 5, 0)", x.ifFires(0, 4, 5, 0), 1);
            due("ifFires(4, 0, 5, 0)", x.ifFires(4, 0, 5, 0), 1);
            due("ifFires(2, 2, 5, 0)", x.ifFires(2, 2, 5, 0), 1);
            due("ifFires(0, 4, 5, 2)", x.ifFires(0, 4, 5, 2), 20);
            due("ifFires(4, 0, 5, 2)", x.ifFires(4, 0, 5, 2), 20);
            due("ifFires(2, 2, 5, 2)", x.ifFires(2, 2, 5, 2), 20);
            due("bestFires(5)", x.bestFires(5), 4);
            due("a stopped boiler 0, bestFires(8)", stoppedAndLine(0).bestFires(8), 1);
        });
        Sentences.sentence("then of the boiler 1.", () -> {
            SteamRations x = stoppedAndLine(1);
            due("ifFires(0, 5, 8, 0)", x.ifFires(0, 5, 8, 0), 1);
            due("ifFires(1, 0, 8, 0)", x.ifFires(1, 0, 8, 0), 2);
            due("ifFires(1, 5, 8, 0)", x.ifFires(1, 5, 8, 0), 2);
            due("ifFires(1, 0, 8, 2)", x.ifFires(1, 0, 8, 2), 8);
            due("ifFires(1, 5, 8, 2)", x.ifFires(1, 5, 8, 2), 8);
            due("a stopped boiler 1, bestFires(8)", x.bestFires(8), 10);
        });
        Sentences.sentence("`ticks`: 1 to 100", () -> {
            SteamRations x = Laundries.withPressure11();
            x.start(0, 0);
            x.run(3);
            due("bestFires(1)", x.bestFires(1), 0);
            SteamRations y = Laundries.withFullLine();
            due("bestFires(100)", y.bestFires(100), best(y, 100));
        });
        Sentences.sentence("Returns ten times the fire of the boiler 0, and that of the boiler 1;", () -> {
            due("fires 1 and 0", stoppedAndLine(1).bestFires(8), 10);
            due("fires 0 and 1", stoppedAndLine(0).bestFires(8), 1);
            due("fires 0 and 0", new SteamRations().bestFires(8), 0);
        });
        Sentences.sentence("BAD_VALUE.", () -> {
            for (int ticks : new int[] {LOW, -1, 0, 101, 200, HIGH}) {
                due("bestFires(" + ticks + ")", new SteamRations().bestFires(ticks), -2);
            }
        });
    }

    /** The number of loads alone counts, neither their worth nor what is spoiled. */
    private static void mostLoadsNotMostCoins() {
        SteamRations x = new SteamRations();
        due("perform()", Laundries.performed(x, "f0:3,f1:1,t2,m0:2,l2,l1,l0"), 7);
        due("a linen, ifFires(0, 2, 9, 0)", x.ifFires(0, 2, 9, 0), 1);
        due("a cotton and a wool, ifFires(0, 5, 9, 0)", x.ifFires(0, 5, 9, 0), 2);
        due("bestFires(9)", x.bestFires(9), 5);
        SteamRations y = new SteamRations();
        due("perform()", Laundries.performed(y, "t60,f0:4,f1:0,t3,m0:2"), 5);
        due("ifFires(0, 0, 8, 1)", y.ifFires(0, 0, 8, 1), 1);
        due("ifFires(0, 1, 8, 1)", y.ifFires(0, 1, 8, 1), 0);
        due("in 8 ticks the linen is not washed, bestFires(8)", y.bestFires(8), 0);
        due("in 9 it is, ifFires(0, 2, 9, 0)", y.ifFires(0, 2, 9, 0), 1);
        due("bestFires(9)", y.bestFires(9), 2);
    }

    /** This boiler has just stopped for safety; a wool, a cotton and a linen are in the line. */
    private static SteamRations stoppedAndLine(int boiler) {
        SteamRations x = new SteamRations();
        x.setFire(boiler, 5);
        x.run(6);
        for (int kind = 0; kind < 3; kind++) {
            x.queue(kind);
        }
        return x;
    }

    /** What bestFires() is to answer, by asking ifFires() for all fires, from the last ones to the first ones. */
    private static int best(SteamRations x, int ticks) {
        int best = 0;
        int washed = -1;
        int burnt = 0;
        for (int fires = 35; fires >= 0; fires--) {
            int w = x.ifFires(fires / 6, fires % 6, ticks, 0);
            int c = x.ifFires(fires / 6, fires % 6, ticks, 2);
            if (w > washed || w == washed && c <= burnt) {
                best = fires / 6 * 10 + fires % 6;
                washed = w;
                burnt = c;
            }
        }
        return best;
    }

    private static void countOfCoal() {
        Sentences.part("Promise 24");
        Sentences.sentence("`what`: 0 for the count of ticks,", () -> {
            SteamRations x = new SteamRations();
            due("count(0)", x.count(0), 0);
            x.run(61);
            x.run(2);
            due("count(0)", x.count(0), 63);
        });
        Sentences.sentence("1 for the coal in the store,", () -> {
            SteamRations x = Laundries.withPressure95();
            due("count(1)", x.count(1), 15);
            x.run(55);
            due("count(1)", x.count(1), 55);
        });
        Sentences.sentence("2 for the coal burnt so far,", () -> {
            SteamRations x = Laundries.withPressure95();
            due("count(2)", x.count(2), 35);
            x.run(55);
            x.setFire(1, 1);
            x.run(2);
            due("count(2)", x.count(2), 37);
        });
        Sentences.sentence("3 for the coal that came by rations so far (what found room),", () -> {
            SteamRations x = new SteamRations();
            due("count(3)", x.count(3), 0);
            x.setRation(200);
            x.run(200);
            x.run(99);
            due("count(3)", x.count(3), 800);
            x.run(1);
            due("there was room for 149, count(3)", x.count(3), 949);
            x.run(200);
            due("there was none, count(3)", x.count(3), 949);
        });
        Sentences.sentence("4 for the ration,", () -> {
            SteamRations x = new SteamRations();
            due("count(4)", x.count(4), 40);
            x.setRation(199);
            due("count(4)", x.count(4), 199);
        });
    }

    private static void countOfLoads() {
        Sentences.sentence("5 for loads in machines,", () -> {
            SteamRations x = Laundries.withPressure95();
            for (int loads = 0; loads < 4; loads++) {
                due("count(5)", x.count(5), loads);
                x.start(3 - loads, 0);
            }
            due("count(5)", x.count(5), 4);
            x.takeOut(0);
            due("count(5)", x.count(5), 3);
            x.run(4);
            due("count(5)", x.count(5), 0);
            SteamRations spoils = Laundries.withWaits();
            due("count(5)", spoils.count(5), 1);
            spoils.run(2);
            due("a spoiled one is in none, count(5)", spoils.count(5), 0);
        });
        Sentences.sentence("6 for loads in the line,", () -> {
            SteamRations x = Laundries.withPressure95();
            for (int loads = 0; loads < 12; loads++) {
                due("count(6)", x.count(6), loads);
                x.queue(0);
            }
            due("count(6)", x.count(6), 12);
            x.unqueue(3);
            due("count(6)", x.count(6), 11);
            x.run(1);
            due("count(6)", x.count(6), 10);
        });
        Sentences.sentence("7 for loads started so far,", () -> {
            SteamRations x = Laundries.withPressure95();
            x.start(1, 0);
            x.queue(0);
            due("by start(), count(7)", x.count(7), 1);
            x.start(1, 0);
            due("one that is not started, count(7)", x.count(7), 1);
            x.run(1);
            due("by the line, count(7)", x.count(7), 2);
            x.takeOut(0);
            x.run(9);
            due("gone ones, too, count(7)", x.count(7), 2);
        });
        Sentences.sentence("8 for washed ones,", () -> {
            SteamRations x = Laundries.withPressure95();
            x.start(0, 0);
            x.start(1, 1);
            x.start(2, 0);
            x.takeOut(2);
            x.run(4);
            due("count(8)", x.count(8), 1);
            x.run(2);
            due("count(8)", x.count(8), 2);
        });
        Sentences.sentence("9 for spoiled ones,", () -> {
            SteamRations x = Laundries.withWaits();
            x.run(1);
            due("count(9)", x.count(9), 0);
            x.run(1);
            due("count(9)", x.count(9), 1);
            x.run(60);
            due("count(9)", x.count(9), 1);
        });
        Sentences.sentence("10 for those taken out,", () -> {
            SteamRations x = Laundries.withPressure95();
            x.start(0, 0);
            x.start(1, 1);
            x.queue(2);
            x.takeOut(0);
            due("count(10)", x.count(10), 1);
            x.takeOut(0);
            x.unqueue(0);
            due("neither an empty machine nor the line, count(10)", x.count(10), 1);
            x.takeOut(1);
            due("count(10)", x.count(10), 2);
        });
        Sentences.sentence("11 for the worth of all washed ones,", () -> {
            SteamRations x = Laundries.withPressure140();
            x.start(0, 0);
            x.start(1, 1);
            x.start(2, 2);
            x.start(3, 0);
            x.takeOut(3);
            int[] worth = {0, 0, 0, 3, 3, 8, 8, 8, 17};
            for (int tick = 0; tick < 9; tick++) {
                x.run(1);
                due("count(11)", x.count(11), worth[tick]);
            }
            SteamRations spoils = Laundries.withWaits();
            spoils.run(9);
            due("a spoiled one, count(11)", spoils.count(11), 0);
        });
    }

    private static void countOfTheRest() {
        Sentences.sentence("12 for the pressure of both boilers,", () -> {
            SteamRations x = Laundries.burnt(3, 4, 1);
            due("count(12)", x.count(12), 19);
            x.run(10);
            due("count(12)", x.count(12), 1);
        });
        Sentences.sentence("13 for ticks in which loads waited so far,", () -> {
            SteamRations x = Laundries.withWaits();
            due("count(13)", x.count(13), 1);
            x.run(1);
            due("count(13)", x.count(13), 2);
            x.run(5);
            due("spoiled in the third one, count(13)", x.count(13), 3);
            SteamRations line = new SteamRations();
            line.queue(0);
            line.run(5);
            due("in the line is no waiting, count(13)", line.count(13), 0);
        });
        Sentences.sentence("14 for the states in the history,", () -> {
            SteamRations x = new SteamRations();
            due("count(14)", x.count(14), 0);
            x.queue(0);
            x.queue(1);
            due("count(14)", x.count(14), 2);
            x.undo();
            due("count(14)", x.count(14), 1);
        });
        Sentences.sentence("15 for the length of the text", () -> {
            SteamRations x = new SteamRations();
            due("count(15)", x.count(15), 0);
            x.type('x');
            x.type('y');
            due("count(15)", x.count(15), 2);
            x.clearText();
            due("count(15)", x.count(15), 0);
        });
        Sentences.sentence("Returns the number;", () -> {
            SteamRations x = Laundries.withPressure140();
            x.start(0, 0);
            x.start(1, 1);
            x.queue(2);
            x.queue(0);
            x.takeOut(1);
            x.run(90);
            int[] all = Laundries.counts(x);
            due("the coal adds up", all[1], 50 + all[3] - all[2]);
            due("the loads add up", all[7], all[5] + all[8] + all[9] + all[10]);
            due("so do those of start() and of the line", all[7] + all[6], 4);
        });
        Sentences.sentence("BAD_VALUE.", () -> {
            for (int what : new int[] {LOW, -1, 16, 17, HIGH}) {
                due("count(" + what + ")", new SteamRations().count(what), -2);
            }
        });
    }
}
