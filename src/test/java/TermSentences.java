/** The sentences of 'Terms' about boilers, machines, ticks, starting and texts, in the document's order. */
final class TermSentences {
    private TermSentences() {
    }

    static void test() {
        Sentences.part("Terms");
        boilersAndCoal();
        machinesAndLoads();
        beginOfATick();
        boilersInATick();
        loadsInATick();
        waitingInATick();
        endOfATick();
        lineInATick();
        starting();
        wouldWait();
        texts();
        numbersOfTexts();
        faultsOfTexts();
    }

    private static void due(String call, long got, long want) {
        Expect.due(call, got, want);
    }

    private static void due(String call, int[] got, int... want) {
        Expect.due(call, got, want);
    }

    private static void boilersAndCoal() {
        Sentences.sentence("There are 2 boilers, numbered from 0, each with", () -> {
            SteamRations x = new SteamRations();
            due("setFire(1, 3)", x.setFire(1, 3), 0);
            due("fill(1, 5)", x.fill(1, 5), 105);
            x.run(1);
            due("boiler 0", Laundries.boiler(x, 0), 0, 100, 0, 0, 0);
            due("boiler 1", Laundries.boiler(x, 1), 3, 102, 8, 0, 0);
            for (int boiler : new int[] {-1, 2, Laundries.LOW, Laundries.HIGH}) {
                due("boiler(" + boiler + ", 0)", x.boiler(boiler, 0), -1);
            }
        });
        Sentences.sentence("a fire (0 to 5; 0 at first),", () -> {
            SteamRations x = new SteamRations();
            due("at first", 10 * x.boiler(0, 0) + x.boiler(1, 0), 0);
            due("too great, setFire(0, 6)", x.setFire(0, 6), -2);
            due("too small, setFire(0, -1)", x.setFire(0, -1), -2);
            due("the greatest, setFire(0, 5)", x.setFire(0, 5), 0);
            due("the least, setFire(0, 0)", x.setFire(0, 0), 5);
        });
        Sentences.sentence("water (0 to 200; 100 at first)", () -> {
            SteamRations x = new SteamRations();
            due("at first", 1000 * x.boiler(0, 1) + x.boiler(1, 1), 100_100);
            due("the most, fill(1, 100)", x.fill(1, 100), 200);
            due("more, fill(1, 1)", x.fill(1, 1), -3);
            SteamRations dry = Laundries.withoutWater();
            dry.setFire(0, 1);
            dry.run(60);
            due("never less than 0", dry.boiler(0, 1), 0);
        });
        Sentences.sentence("and pressure (0 at first).", () -> {
            SteamRations x = new SteamRations();
            due("at first", Laundries.pressures(x), 0, 0);
            due("of both", x.count(12), 0);
        });
        Sentences.sentence("Coal is in one store (0 to 999; 50 at first).", () -> {
            SteamRations x = new SteamRations();
            due("at first", x.count(1), 50);
            x.setFire(0, 5);
            x.setFire(1, 5);
            x.run(3);
            due("both burn the same coal", x.count(1), 20);
            x.run(30);
            due("never less than 0", x.count(1), 0);
            SteamRations y = new SteamRations();
            y.setRation(200);
            y.run(200);
            y.run(200);
            due("never more than 999", y.count(1), 999);
        });
        Sentences.sentence("A shift has 60 ticks; at the beginning of each shift but the first one the ration", () -> {
            SteamRations x = new SteamRations();
            due("none at the beginning", x.count(3), 0);
            int[] ticks = {1, 58, 1, 1, 58, 1, 200};
            int[] came = {0, 0, 40, 40, 40, 80, 200};
            for (int i = 0; i < ticks.length; i++) {
                x.run(ticks[i]);
                due("came by tick " + x.count(0), x.count(3), came[i]);
            }
        });
        Sentences.sentence("(0 to 200; 40 at first) comes into the store,", () -> {
            due("at first", new SteamRations().count(4), 40);
            int[] rations = {0, 1, 40, 200};
            for (int ration : rations) {
                SteamRations x = new SteamRations();
                x.setRation(ration);
                x.run(60);
                due("coal with ration " + ration, x.count(1), 50 + ration);
            }
            due("too small", new SteamRations().setRation(-1), -2);
            due("too great", new SteamRations().setRation(201), -2);
        });
        Sentences.sentence("as much as there is room for.", () -> {
            int[] rations = {148, 149, 150, 200};
            int[] coal = {998, 999, 999, 999};
            for (int i = 0; i < rations.length; i++) {
                SteamRations x = new SteamRations();
                x.setRation(200);
                x.run(200);
                x.run(40);
                due("coal", x.count(1), 850);
                x.setRation(rations[i]);
                x.run(60);
                due("coal of 850 and " + rations[i], x.count(1), coal[i]);
                due("what came", x.count(3), coal[i] - 50);
                x.setRation(2);
                x.run(60);
                due("coal of one more ration", x.count(1), 999);
                due("what came then", x.count(3), 949);
            }
        });
    }

    private static void machinesAndLoads() {
        Sentences.sentence("There are 4 machines, numbered from 0.", () -> {
            SteamRations x = Laundries.withPressure95();
            for (int machine = 0; machine < 4; machine++) {
                due("start(" + machine + ", 0)", x.start(machine, 0), 4);
            }
            due("count(5)", x.count(5), 4);
            for (int machine : new int[] {-1, 4, Laundries.LOW, Laundries.HIGH}) {
                due("machine(" + machine + ", 0)", x.machine(machine, 0), -1);
                due("start(" + machine + ", 0)", x.start(machine, 0), -1);
                due("takeOut(" + machine + ")", x.takeOut(machine), -1);
            }
        });
        Sentences.sentence("A load is of a kind: 0 wool (4 ticks, 2 steam in each), 1 cotton (6 ticks, 4 steam), "
            + "2 linen (9 ticks, 6 steam);", () -> {
            int[] ticks = {4, 6, 9};
            int[] steam = {2, 4, 6};
            for (int kind = 0; kind < 3; kind++) {
                SteamRations x = Laundries.withPressure95();
                due("start(0, " + kind + ")", x.start(0, kind), ticks[kind]);
                for (int tick = 1; tick <= ticks[kind]; tick++) {
                    int pressure = x.count(12);
                    due("washed in tick " + tick, x.run(1), tick == ticks[kind] ? 1 : 0);
                    due("steam and the fall of tick " + tick, pressure - x.count(12), steam[kind] + 2);
                }
            }
            for (int kind : new int[] {-1, 3, Laundries.LOW, Laundries.HIGH}) {
                SteamRations x = Laundries.withPressure95();
                due("start(0, " + kind + ")", x.start(0, kind), -1);
                due("queue(" + kind + ")", x.queue(kind), -1);
                due("reason(" + kind + ")", x.reason(kind), -1);
            }
        });
        Sentences.sentence("its worth is 3, 5 and 9 coins.", () -> {
            int[] worth = {3, 5, 9};
            for (int kind = 0; kind < 3; kind++) {
                SteamRations x = Laundries.withPressure95();
                x.start(0, kind);
                x.run(9);
                due("the worth of kind " + kind, x.count(11), worth[kind]);
            }
        });
        Sentences.sentence("A machine is empty (at first), or has a load with so many ticks left.", () -> {
            SteamRations x = new SteamRations();
            for (int machine = 0; machine < 4; machine++) {
                due("at first", Laundries.machine(x, machine), -5, 0, 0);
            }
            SteamRations y = Laundries.withPressure11();
            y.start(3, 0);
            for (int left = 4; left > 0; left--) {
                due("with a load", Laundries.machine(y, 3), 0, left, 0);
                y.run(1);
            }
            due("empty again", Laundries.machine(y, 3), -5, 0, 0);
        });
    }

    private static void beginOfATick() {
        Sentences.sentence("These things happen in a tick, in this order:", () -> {
            SteamRations ration = Laundries.withPressure140();
            ration.run(54);
            ration.setFire(0, 5);
            ration.run(1);
            due("the ration comes ahead of the fires", ration.boiler(0, 0), 5);
            SteamRations fire = Laundries.withPressure11();
            fire.setFire(0, 4);
            due("start(0, 2)", fire.start(0, 2), 9);
            fire.setFire(0, 0);
            fire.run(1);
            due("pressure", fire.count(12), 4);
            fire.setFire(0, 1);
            fire.run(1);
            due("the fires make steam ahead of the loads", Laundries.machine(fire, 0), 2, 7, 0);
            SteamRations load = Laundries.withPressure11();
            load.start(0, 0);
            due("the loads take steam ahead of the fall", load.run(4), 1);
            SteamRations fall = new SteamRations();
            fall.setFire(1, 5);
            fall.run(5);
            due("the pressure falls to 70 ahead of the stops", Laundries.boiler(fall, 1), 5, 75, 70, 0, 0);
            SteamRations line = fall;
            line.setFire(1, 1);
            line.queue(2);
            line.run(1);
            due("a boiler stops ahead of the line", Laundries.boiler(line, 1), 0, 74, 30, 10, 1);
            due("so the linen is not started", line.count(7), 0);
            SteamRations full = Laundries.withPressure95();
            for (int machine = 0; machine < 4; machine++) {
                full.start(machine, 0);
            }
            full.queue(1);
            full.run(4);
            due("the loads are washed ahead of the line", Laundries.machine(full, 0), 1, 6, 0);
        });
        Sentences.sentence("1. The count of ticks grows by 1 (0 at first).", () -> {
            SteamRations x = new SteamRations();
            due("at first", x.count(0), 0);
            x.run(1);
            due("after a tick", x.count(0), 1);
            x.run(200);
            due("after 200 more", x.count(0), 201);
        });
        Sentences.sentence("If it is a multiple of 60, the ration comes.", () -> {
            SteamRations x = new SteamRations();
            int came = 0;
            for (int tick = 1; tick <= 181; tick++) {
                x.run(1);
                came += tick == 60 || tick == 120 || tick == 180 ? 40 : 0;
                due("what came by tick " + tick, x.count(3), came);
            }
        });
    }

    private static void boilersInATick() {
        Sentences.sentence("2. Boilers, by their numbers:", () -> {
            SteamRations x = Laundries.burnt(3, 3, 8);
            due("coal", x.count(1), 2);
            x.setFire(0, 1);
            x.setFire(1, 2);
            x.run(1);
            due("boiler 0 takes of the last coal first",
                new int[] {x.boiler(0, 0), x.boiler(1, 0), x.count(1)}, 1, 0, 1);
            SteamRations y = Laundries.burnt(3, 3, 8);
            y.setFire(0, 2);
            y.setFire(1, 1);
            y.run(1);
            due("and here all of it", new int[] {y.boiler(0, 0), y.boiler(1, 0), y.count(1)}, 2, 0, 0);
        });
        Sentences.sentence("one that is stopped has one tick of its stop less.", () -> {
            SteamRations x = Laundries.withStop();
            for (int left = 10; left > 0; left--) {
                due("the ticks of its stop", x.boiler(0, 3), left);
                x.run(1);
            }
            due("the stop is over", x.boiler(0, 3), 0);
            x.run(1);
            due("and stays so", x.boiler(0, 3), 0);
        });
        Sentences.sentence("One that is not, and has a fire: if the store has as much coal as its fire, "
            + "and it has as much water, both become less by the fire, "
            + "and its pressure grows by 3 for each step of the fire;", () -> {
            for (int fire = 1; fire <= 5; fire++) {
                SteamRations x = new SteamRations();
                x.setFire(1, fire);
                x.run(1);
                due("fire " + fire, Laundries.boiler(x, 1), fire, 100 - fire, 3 * fire - 1, 0, 0);
                due("coal", x.count(1), 50 - fire);
                due("burnt", x.count(2), fire);
            }
            SteamRations coal = Laundries.burnt(5, 4, 5);
            coal.setFire(1, 5);
            coal.run(1);
            due("just as much coal as the fire", Laundries.boiler(coal, 1), 5, 75, 69, 0, 0);
            due("the coal", coal.count(1), 0);
            SteamRations water = Laundries.withWater4();
            water.setFire(0, 4);
            water.run(1);
            due("just as much water as the fire", Laundries.boiler(water, 0), 4, 0, 11, 0, 0);
        });
        Sentences.sentence("otherwise its fire goes out (0).", () -> {
            SteamRations coal = Laundries.burnt(5, 4, 5);
            coal.setFire(1, 1);
            coal.run(1);
            due("coal", coal.count(1), 4);
            coal.setFire(1, 5);
            coal.run(1);
            due("one coal too few", Laundries.boiler(coal, 1), 0, 79, 56, 0, 0);
            due("which stays", 100 * coal.count(1) + coal.count(2), 446);
            coal.run(60);
            due("the fire is not lit by a ration", coal.boiler(1, 0), 0);
            SteamRations water = Laundries.withWater4();
            int[] counts = Laundries.counts(water);
            water.setFire(0, 5);
            water.run(1);
            due("one water too few", Laundries.boiler(water, 0), 0, 4, 0, 0, 0);
            due("the coal stays", water.count(1), counts[1]);
            due("nothing is burnt", water.count(2), counts[2]);
        });
    }

    private static void loadsInATick() {
        Sentences.sentence("3. The need is the steam of all loads in machines.", () -> {
            SteamRations none = new SteamRations();
            none.run(3);
            due("without loads, ticks in which loads waited", none.count(13), 0);
            SteamRations x = Laundries.withPressure140();
            int[] kinds = {0, 2, 1, 0};
            for (int machine = 0; machine < 4; machine++) {
                due("start(" + machine + ", " + kinds[machine] + ")", x.start(machine, kinds[machine]),
                    new int[] {4, 9, 6, 4}[machine]);
            }
            x.queue(2);
            x.run(1);
            due("14 are taken, and 2 fall", x.count(12), 124);
        });
        Sentences.sentence("If the pressure of both boilers together is at least the need, "
            + "it is taken from them,", () -> {
            SteamRations enough = linenWithPressure(1);
            enough.run(1);
            due("pressure", enough.count(12), 6);
            enough.run(1);
            due("6 of 6 are taken", Laundries.machine(enough, 0), 2, 7, 0);
            due("pressure", enough.count(12), 0);
            SteamRations less = linenWithPressure(2);
            less.run(1);
            due("pressure", less.count(12), 5);
            less.run(1);
            due("5 are too few for 6", Laundries.machine(less, 0), 2, 8, 1);
            SteamRations both = Laundries.burnt(3, 3, 1);
            both.run(1);
            both.setFire(0, 3);
            due("start(0, 2)", both.start(0, 2), 9);
            both.setFire(0, 0);
            both.run(1);
            due("pressures", Laundries.pressures(both), 3, 3);
            both.run(1);
            due("3 and 3 are enough", Laundries.machine(both, 0), 2, 7, 0);
        });
        Sentences.sentence("one by one, always from the one with the greater pressure (of both alike from 0),", () -> {
            SteamRations x = Laundries.burnt(4, 5, 1);
            due("pressures", Laundries.pressures(x), 11, 14);
            due("start(0, 0)", x.start(0, 0), 4);
            x.run(1);
            due("two of 1", Laundries.pressures(x), 10, 11);
            x.run(1);
            due("one of 1, one of 0", Laundries.pressures(x), 8, 9);
            SteamRations alike = Laundries.burnt(3, 3, 2);
            due("pressures", Laundries.pressures(alike), 16, 16);
            due("start(0, 0)", alike.start(0, 0), 4);
            alike.run(1);
            due("one of each", Laundries.pressures(alike), 14, 14);
            SteamRations odd = Laundries.burnt(5, 4, 1);
            odd.setFire(0, 5);
            due("start(0, 2)", odd.start(0, 2), 9);
            odd.setFire(0, 0);
            odd.run(1);
            due("of 14 and 11: 0, 0, 0, as they are alike 0, then 1, 0", Laundries.pressures(odd), 8, 9);
            SteamRations first = Laundries.burnt(5, 0, 1);
            first.start(0, 0);
            first.run(1);
            due("both of 0, for 1 has none", Laundries.pressures(first), 11, 0);
        });
        Sentences.sentence("and each load has one tick less;", () -> {
            SteamRations x = Laundries.withPressure95();
            x.start(0, 0);
            x.start(2, 2);
            x.run(1);
            due("the wool", Laundries.machine(x, 0), 0, 3, 0);
            due("the linen", Laundries.machine(x, 2), 2, 8, 0);
            due("an empty machine", Laundries.machine(x, 1), -5, 0, 0);
        });
        Sentences.sentence("a load with none left is washed: its machine is empty, and its worth is counted.", () -> {
            SteamRations x = Laundries.withPressure95();
            x.start(1, 0);
            x.start(3, 1);
            x.run(3);
            due("one tick left", Laundries.machine(x, 1), 0, 1, 0);
            due("washed and worth", 100 * x.count(8) + x.count(11), 0);
            x.run(1);
            due("none left", Laundries.machine(x, 1), -5, 0, 0);
            due("washed and worth", 100 * x.count(8) + x.count(11), 103);
            due("the other one goes on", Laundries.machine(x, 3), 1, 2, 0);
            x.run(2);
            due("washed and worth", 100 * x.count(8) + x.count(11), 208);
        });
    }

    /** Pressure 14 in boiler 0, less 1 for each of these ticks; a linen in machine 0, no fire. */
    private static SteamRations linenWithPressure(int ticks) {
        SteamRations x = Laundries.burnt(5, 0, 1);
        x.run(ticks);
        x.setFire(0, 3);
        due("start(0, 2)", x.start(0, 2), 9);
        x.setFire(0, 0);
        return x;
    }

    /** Pressure 2, no fire; a linen in machine 0 with 8 ticks left and a wool in machine 1 with 3. */
    private static SteamRations linenAndWool() {
        SteamRations x = Laundries.withPressure11();
        x.setFire(0, 4);
        due("start(0, 2)", x.start(0, 2), 9);
        due("start(1, 0)", x.start(1, 0), 4);
        x.setFire(0, 0);
        x.run(1);
        due("pressure", x.count(12), 2);
        return x;
    }

    private static void waitingInATick() {
        Sentences.sentence("Otherwise all loads wait in this tick: nothing is taken, and", () -> {
            SteamRations x = linenAndWool();
            x.run(1);
            due("the linen", Laundries.machine(x, 0), 2, 8, 1);
            due("the wool, for which alone there is steam", Laundries.machine(x, 1), 0, 3, 1);
            due("the pressure falls, no more", x.count(12), 1);
            due("it is one tick, of two loads", x.count(13), 1);
        });
        Sentences.sentence("each load that waits for the third time since it was started is spoiled: "
            + "its machine is empty.", () -> {
            SteamRations both = linenAndWool();
            both.run(2);
            due("twice", Laundries.machine(both, 0), 2, 8, 2);
            due("twice", Laundries.machine(both, 1), 0, 3, 2);
            due("spoiled", both.count(9), 0);
            due("washed in the third tick", both.run(1), 0);
            due("three times", Laundries.machine(both, 0), -5, 0, 0);
            due("three times", Laundries.machine(both, 1), -5, 0, 0);
            due("spoiled", both.count(9), 2);
            due("no worth", both.count(11), 0);
            both.run(1);
            due("nothing waits any more", both.count(13), 3);
            notOneAfterTheOther();
            eachLoadByItself();
            sinceItWasStarted();
        });
    }

    private static void notOneAfterTheOther() {
        SteamRations x = Laundries.withWaits();
        x.setFire(0, 2);
        x.run(1);
        due("it works again", Laundries.machine(x, 0), 2, 7, 1);
        x.setFire(0, 0);
        x.run(1);
        due("twice in all", Laundries.machine(x, 0), 2, 7, 2);
        x.run(1);
        due("three times in all", Laundries.machine(x, 0), -5, 0, 0);
        due("spoiled", x.count(9), 1);
    }

    private static void eachLoadByItself() {
        SteamRations x = Laundries.withWaits();
        x.run(1);
        x.setFire(0, 5);
        x.run(1);
        due("the linen waited twice", Laundries.machine(x, 0), 2, 7, 2);
        due("start(1, 0)", x.start(1, 0), 4);
        x.setFire(0, 0);
        x.run(2);
        due("the linen waited three times", Laundries.machine(x, 0), -5, 0, 0);
        due("the wool once", Laundries.machine(x, 1), 0, 3, 1);
    }

    private static void sinceItWasStarted() {
        SteamRations x = Laundries.withWaits();
        x.run(1);
        due("waited twice", x.machine(0, 2), 2);
        x.takeOut(0);
        x.setFire(0, 5);
        x.run(1);
        due("start(0, 0)", x.start(0, 0), 4);
        due("another load in the machine", Laundries.machine(x, 0), 0, 4, 0);
    }

    private static void endOfATick() {
        Sentences.sentence("4. The pressure of each boiler falls by 1 (not below 0).", () -> {
            SteamRations x = Laundries.burnt(1, 2, 1);
            int[][] pressures = {{2, 5}, {1, 4}, {0, 3}, {0, 2}, {0, 1}, {0, 0}, {0, 0}};
            for (int[] pressure : pressures) {
                due("pressures", Laundries.pressures(x), pressure);
                x.run(1);
            }
        });
        Sentences.sentence("5. A boiler whose pressure is above 70 stops for safety:", () -> {
            for (int boiler = 0; boiler < 2; boiler++) {
                SteamRations x = new SteamRations();
                x.setFire(boiler, 5);
                x.run(5);
                due("70 is not above", Laundries.boiler(x, boiler), 5, 75, 70, 0, 0);
                SteamRations y = new SteamRations();
                y.setFire(boiler, 5);
                y.run(4);
                y.setFire(boiler, 2);
                y.run(3);
                due("71 is", Laundries.boiler(y, boiler), 0, 74, 30, 10, 1);
                due("the other one", Laundries.boiler(y, 1 - boiler), 0, 100, 0, 0, 0);
            }
            SteamRations both = new SteamRations();
            both.run(60);
            both.setFire(0, 5);
            both.setFire(1, 5);
            both.run(6);
            due("both in one tick", Laundries.boiler(both, 0), 0, 70, 30, 10, 1);
            due("both in one tick", Laundries.boiler(both, 1), 0, 70, 30, 10, 1);
        });
        Sentences.sentence("its pressure becomes 30, its fire goes out, and it is stopped for 10 ticks", () -> {
            SteamRations x = Laundries.withStop();
            due("fire", x.boiler(0, 0), 0);
            due("pressure", x.boiler(0, 2), 30);
            for (int tick = 0; tick < 10; tick++) {
                due("stopped after " + tick + " ticks, setFire(0, 1)", x.setFire(0, 1), -4);
                x.run(1);
            }
            due("after 10 ticks, setFire(0, 1)", x.setFire(0, 1), 0);
        });
        Sentences.sentence("(from the next tick on: it makes no steam in these; what it has can be taken).", () -> {
            SteamRations x = Laundries.withStop();
            due("with fire 5, coal in 10 ticks", x.ifFires(5, 0, 10, 2), 0);
            due("with fire 5, coal in 11 ticks", x.ifFires(5, 0, 11, 2), 5);
            due("start(0, 1)", x.start(0, 1), 6);
            x.run(1);
            due("4 are taken", Laundries.boiler(x, 0), 0, 70, 25, 9, 1);
        });
    }

    private static void lineInATick() {
        Sentences.sentence("6. The line: the first load of the line is started in the lowest empty machine, "
            + "if it can be (see below);", () -> {
            SteamRations x = Laundries.withPressure95();
            x.start(0, 0);
            x.start(2, 0);
            x.queue(1);
            x.queue(0);
            x.run(1);
            due("machine 1", Laundries.machine(x, 1), 1, 6, 0);
            due("machine 3", Laundries.machine(x, 3), -5, 0, 0);
            due("the line", Laundries.line(x), 0);
            due("started", x.count(7), 3);
            SteamRations y = Laundries.withPressure95();
            y.start(1, 1);
            y.queue(0);
            y.run(1);
            due("machine 0", Laundries.machine(y, 0), 0, 4, 0);
            emptiedBySpoiling();
        });
        Sentences.sentence("if not, it waits.", () -> {
            SteamRations x = Laundries.burnt(4, 0, 2);
            x.queue(2);
            x.queue(0);
            x.run(1);
            due("the wool could be started", x.reason(0), 0);
            due("the linen could not", x.reason(2), 3);
            due("so both wait", Laundries.line(x), 2, 0);
            due("started", x.count(7), 0);
            SteamRations cold = new SteamRations();
            cold.queue(0);
            cold.run(1);
            due("no pressure", Laundries.line(cold), 0);
            SteamRations full = Laundries.withPressure95();
            for (int machine = 0; machine < 4; machine++) {
                full.start(machine, 0);
            }
            full.queue(0);
            full.run(3);
            due("no machine", Laundries.line(full), 0);
            full.run(1);
            due("and then there is one", Laundries.line(full));
        });
        Sentences.sentence("(One in a tick.)", () -> {
            SteamRations x = Laundries.withPressure140();
            for (int place = 0; place < 3; place++) {
                x.queue(0);
            }
            for (int tick = 1; tick <= 3; tick++) {
                x.run(1);
                due("started by tick " + tick, x.count(7), tick);
            }
            SteamRations empty = Laundries.withPressure140();
            empty.run(1);
            due("none of an empty line", empty.count(7), 0);
        });
    }

    /** Three linens are spoiled in a tick, and so the line's wool is started in machine 0. */
    private static void emptiedBySpoiling() {
        SteamRations x = new SteamRations();
        x.run(60);
        x.setFire(0, 5);
        x.setFire(1, 5);
        x.run(1);
        for (int machine = 0; machine < 3; machine++) {
            due("start(" + machine + ", 2)", x.start(machine, 2), 9);
        }
        x.setFire(0, 0);
        x.setFire(1, 0);
        x.run(3);
        due("waited", x.machine(2, 2), 2);
        x.queue(0);
        x.setFire(0, 4);
        x.run(1);
        due("spoiled", x.count(9), 3);
        due("in the same tick", Laundries.machine(x, 0), 0, 4, 0);
    }

    private static void starting() {
        Sentences.sentence("A load is not started for the first of these reasons that holds:", () -> {
            SteamRations x = fourWoolsAndNoSteam();
            due("all three hold, reason(2)", x.reason(2), 1);
            due("all three hold, start(1, 2)", x.start(1, 2), -11);
            x.takeOut(3);
            due("2 and 3 hold, reason(2)", x.reason(2), 2);
            due("2 and 3 hold, start(3, 2)", x.start(3, 2), -12);
            due("all three hold for machine 0, start(0, 2)", x.start(0, 2), -11);
            SteamRations y = Laundries.withPressure11();
            due("3 holds, start(3, 2)", y.start(3, 2), -13);
            due("none holds, start(3, 0)", y.start(3, 0), 4);
        });
        Sentences.sentence("1 there is no empty machine (or the one told is not empty);", () -> {
            SteamRations x = Laundries.withPressure140();
            for (int machine = 0; machine < 4; machine++) {
                due("machines are empty, reason(0)", x.reason(0), 0);
                due("start(" + machine + ", 0)", x.start(machine, 0), 4);
                due("it is not empty now, start(" + machine + ", 0)", x.start(machine, 0), -11);
            }
            due("none is empty, reason(0)", x.reason(0), 1);
            x.takeOut(2);
            due("one is empty, reason(0)", x.reason(0), 0);
            due("another one told", x.start(1, 0), -11);
            due("that one told", x.start(2, 0), 4);
        });
        Sentences.sentence("2 the pressure of both boilers together is less than 10;", () -> {
            SteamRations x = Laundries.withPressure11();
            x.run(1);
            x.setFire(0, 5);
            due("10 is not, reason(0)", x.reason(0), 0);
            x.setFire(0, 0);
            x.run(1);
            x.setFire(0, 5);
            due("9 is, though there will be steam, reason(0)", x.reason(0), 2);
            due("start(0, 0)", x.start(0, 0), -12);
            SteamRations both = new SteamRations();
            both.setFire(0, 2);
            both.setFire(1, 2);
            both.run(1);
            due("5 and 5", both.reason(0), 0);
            both.setFire(0, 0);
            both.setFire(1, 0);
            both.run(1);
            both.setFire(1, 5);
            due("4 and 4", both.reason(0), 2);
        });
    }

    /** Pressure 2, no fire, and a wool in each machine. */
    private static SteamRations fourWoolsAndNoSteam() {
        SteamRations x = Laundries.withPressure11();
        x.setFire(0, 5);
        for (int machine = 0; machine < 4; machine++) {
            due("start(" + machine + ", 0)", x.start(machine, 0), 4);
        }
        x.setFire(0, 0);
        x.run(1);
        due("pressure", x.count(12), 2);
        return x;
    }

    private static void wouldWait() {
        Sentences.sentence("3 if it was started now, and only ticks passed,", () -> {
            SteamRations x = Laundries.withPressure11();
            due("11 are enough for 4 ticks of wool, reason(0)", x.reason(0), 0);
            x.run(1);
            due("10 are too few in the last tick, reason(0)", x.reason(0), 3);
            SteamRations cotton = Laundries.burnt(5, 0, 3);
            cotton.run(13);
            due("29 are enough for 6 ticks of cotton, reason(1)", cotton.reason(1), 0);
            cotton.run(1);
            due("28 are too few in the last tick, reason(1)", cotton.reason(1), 3);
            SteamRations linen = Laundries.burnt(5, 0, 5);
            linen.run(8);
            due("62 are enough for 9 ticks of linen, reason(2)", linen.reason(2), 0);
            linen.run(1);
            due("61 are too few in the last tick, reason(2)", linen.reason(2), 3);
        });
        Sentences.sentence("with no load of the line started by them", () -> {
            SteamRations x = Laundries.withPressure95();
            x.run(1);
            x.queue(1);
            due("with the cotton of the line it would wait, reason(2)", x.reason(2), 0);
            due("start(0, 2)", x.start(0, 2), 9);
            x.run(9);
            due("as the cotton was started it does", Laundries.machine(x, 0), 2, 1, 1);
        });
        Sentences.sentence("(but fires go out, boilers stop and rations come as told),", () -> {
            fireGoesOut();
            boilerStops();
            rationComes();
        });
        Sentences.sentence("some load would have to wait before this one is washed.", () -> {
            SteamRations other = Laundries.withPressure11();
            other.start(2, 0);
            due("the first wool would wait, reason(0)", other.reason(0), 3);
            due("start(0, 0)", other.start(0, 0), -13);
            for (int pressure = 34; pressure <= 35; pressure++) {
                SteamRations x = Laundries.burnt(4, 0, 4);
                x.run(44 - pressure);
                x.setFire(0, 3);
                due("start(0, 2)", x.start(0, 2), 9);
                x.setFire(0, 0);
                due("pressure", x.count(12), pressure);
                due("the linen waits in the 4th tick, or after it, reason(0)", x.reason(0), pressure == 34 ? 3 : 0);
            }
        });
    }

    /** Pressure 11 in both boilers, fire 2, with coal for 5 ticks of it, or for more than 9. */
    private static void fireGoesOut() {
        for (int ticks = 0; ticks <= 60; ticks += 60) {
            SteamRations x = new SteamRations();
            x.run(ticks + 1);
            x.setFire(0, 5);
            x.setFire(1, 5);
            x.run(4);
            x.setFire(0, 0);
            x.setFire(1, 0);
            x.run(45);
            x.setFire(0, 2);
            due("coal", x.count(1), ticks == 0 ? 10 : 50);
            due("pressures", Laundries.pressures(x), 11, 11);
            due("reason(2)", x.reason(2), ticks == 0 ? 3 : 0);
        }
    }

    /** Pressure 70 and fire 5 in boiler 0: it stops in the next tick, with 30, and makes no steam for 10. */
    private static void boilerStops() {
        SteamRations x = new SteamRations();
        x.setFire(0, 5);
        x.run(5);
        due("30 are enough for 5 ticks of cotton, reason(1)", x.reason(1), 0);
        due("30 are too few for 8 ticks of linen, reason(2)", x.reason(2), 3);
        x.setFire(0, 0);
        due("without a stop, reason(2)", x.reason(2), 0);
    }

    /** Pressure 16 in both boilers, fire 5 in boiler 0, no coal, at tick 59. */
    private static void rationComes() {
        SteamRations x = Laundries.withPressure140();
        x.run(54);
        x.setFire(0, 5);
        due("coal", x.count(1), 0);
        due("pressure", x.count(12), 32);
        due("a ration comes, reason(2)", x.reason(2), 0);
        x.setRation(0);
        due("none comes, reason(2)", x.reason(2), 3);
    }

    private static void texts() {
        Sentences.sentence("There is a text of at most 80 characters, empty at first.", () -> {
            SteamRations x = new SteamRations();
            due("at first", x.count(15), 0);
            due("perform() at first", x.perform(), -100);
            for (int length = 1; length <= 80; length++) {
                due("type", x.type('t'), length);
            }
            due("one more", x.type('t'), -3);
            due("count(15)", x.count(15), 80);
        });
        Sentences.sentence("A list of orders is one or more commands with \",\" between two:", () -> {
            good("l0", 1);
            good("l0,f1:5", 2);
            good("t1,".repeat(26) + "t1", 27);
            fault(",l0", 0);
            fault("l0l0", 2);
            fault("l0,,l0", 3);
            fault("l0 l0", 2);
            fault("l0;l0", 2);
            fault("l0, l0", 3);
            fault("l0,x", 3);
            fault("l0,", 3);
        });
        Sentences.sentence("\"f\", a boiler (0 or 1), \":\" and a fire (0 to 5);", () -> {
            good("f0:0", 1);
            good("f1:5", 1);
            faults(new String[] {"F0:0", "0", "f2:0", "f:0", "f/:0", "f0;0", "f00", "f0:6", "f0:-1", "f0::", "f0:0x"},
                0, 0, 1, 1, 1, 2, 2, 3, 3, 3, 4);
            SteamRations x = new SteamRations();
            due("perform()", Laundries.performed(x, "f1:5"), 1);
            due("fires", 10 * x.boiler(0, 0) + x.boiler(1, 0), 5);
        });
        Sentences.sentence("\"w\", a boiler, \":\" and water (1 to 200) that is let in;", () -> {
            good("w1:1", 1);
            good("w0:99", 1);
            due("perform() of w0:200", Laundries.performed(Laundries.withoutWater(), "w0:200"), 1);
            faults(new String[] {"W0:1", "w2:1", "w:1", "w0,1", "w0:x", "w0:-1", "w0:9:"}, 0, 1, 1, 2, 3, 3, 4);
            SteamRations x = new SteamRations();
            due("perform()", Laundries.performed(x, "w1:34"), 1);
            due("water", Laundries.boiler(x, 1), 0, 134, 0, 0, 0);
        });
        Sentences.sentence("\"m\", a machine (0 to 3), \":\" and a kind (0 to 2): a load is started;", () -> {
            for (int machine = 0; machine < 4; machine++) {
                for (int kind = 0; kind < 3; kind++) {
                    SteamRations x = Laundries.withPressure95();
                    due("perform()", Laundries.performed(x, "m" + machine + ":" + kind), 1);
                    due("the load", x.machine(machine, 0), kind);
                }
            }
            faults(new String[] {"M0:0", "m4:0", "m:0", "m0-0", "m3:3", "m3:x", "m0:0:"}, 0, 1, 1, 2, 3, 3, 4);
        });
        Sentences.sentence("\"l\" and a kind: a load comes to the line;", () -> {
            SteamRations x = new SteamRations();
            due("perform()", Laundries.performed(x, "l2,l0,l1"), 3);
            due("the line", Laundries.line(x), 2, 0, 1);
            faults(new String[] {"L0", "l3", "l:0", "l-", "l0:0"}, 0, 1, 1, 1, 2);
        });
        Sentences.sentence("\"t\" and ticks (1 to 200).", () -> {
            SteamRations x = new SteamRations();
            due("perform()", Laundries.performed(x, "t1,t9,t10,t99,t100,t199,t200"), 7);
            due("ticks", x.count(0), 618);
            faults(new String[] {"T1", "t:1", "t-1", "tx", "t1:1"}, 0, 1, 1, 1, 2);
        });
    }

    private static void numbersOfTexts() {
        Sentences.sentence("Numbers have no zero in front unless they are the single digit 0;", () -> {
            faults(new String[] {"f00:1", "f01:1", "f0:00", "f0:05", "w00:1", "m01:0", "m0:01", "l00", "l02"},
                2, 2, 4, 4, 2, 2, 4, 2, 2);
            good("f0:0,l0", 2);
        });
        Sentences.sentence("water and ticks do not begin with 0;", () -> {
            faults(new String[] {"w0:0", "w1:01", "w1:00", "t0", "t01", "t00"}, 3, 3, 3, 1, 1, 1);
            good("t10,t100,w0:10,w1:100", 4);
        });
        Sentences.sentence("a digit by which a number would be greater than told is not allowed.", () -> {
            faults(new String[] {"t201", "t209", "t210", "t300", "t999", "t2000", "t1000", "t2001"},
                3, 3, 3, 3, 3, 4, 4, 4);
            faults(new String[] {"w0:201", "w0:300", "w0:2000", "w0:1999"}, 5, 5, 6, 6);
            faults(new String[] {"f2", "f9", "f10", "m4", "m10", "f0:6", "f0:50", "m0:3", "m0:20", "l3", "l20"},
                1, 1, 2, 1, 2, 3, 4, 3, 4, 1, 2);
            good("t200,t199,t20,t2,f1:5,w0:100,l2", 7);
        });
    }

    private static void faultsOfTexts() {
        Sentences.sentence("The fault of the text is the index, from 0, of the first character that is not allowed "
            + "at its place,", () -> {
            faults(new String[] {"x", " ", "\u0000", "\uffff", "\u0166", "f2:9,x", "l0,l0,l9,l9", "t5x,t0"},
                0, 0, 0, 0, 0, 1, 7, 2);
            faults(new String[] {"t\u0661", "l\u0130", "f0\uff1a1", "l0\uff0c"}, 1, 1, 2, 2);
            fault("t1,".repeat(26) + "t0", 79);
            fault("t10," + "t1,".repeat(25) + "x", 79);
        });
        Sentences.sentence("or the length of the text if it ends too early (the empty text does).", () -> {
            fault("", 0);
            for (String order : new String[] {"f1:3", "w0:2", "m3:1", "l2", "t7"}) {
                for (int length = 0; length < order.length(); length++) {
                    fault(order.substring(0, length), length);
                    fault("t200," + order.substring(0, length), 5 + length);
                }
            }
            fault("l0,".repeat(26) + "l", 79);
            fault("f0:0," + "l0,".repeat(25), 80);
            fault("f0:0,t10," + "l0,".repeat(23) + "f0", 80);
        });
    }

    private static void faults(String[] texts, int... places) {
        for (int i = 0; i < texts.length; i++) {
            fault(texts[i], places[i]);
        }
    }

    private static void fault(String text, int place) {
        SteamRations x = new SteamRations();
        due("perform() of " + text, Laundries.performed(x, text), -100 - place);
        due("after " + text + ", ticks, the line, the history", x.count(0) + x.count(6) + x.count(14), 0);
    }

    private static void good(String text, int commands) {
        due("perform() of " + text, Laundries.performed(new SteamRations(), text), commands);
    }
}
