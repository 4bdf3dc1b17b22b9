/** A steam laundry whose coal is rationed; ../shared/DOC.md says what each call answers. */
public final class SteamRations {
    public static final int UNKNOWN = -1;
    public static final int BAD_VALUE = -2;
    public static final int FULL = -3;
    public static final int NOT_POSSIBLE = -4;
    public static final int NONE = -5;
    public static final int NOT_STARTED = -10;

    private static final int MOST_FIRE = 5;
    private static final int MOST_WATER = 200;
    private static final int MOST_COAL = 999;
    private static final int MOST_RATION = 200;
    private static final int MOST_TICKS_OF_A_RUN = 200;
    private static final int MOST_TICKS_OF_A_SEARCH = 100;
    private static final int MOST_TICKS_TO_BE_DONE = 400;
    private static final int MOST_TICKS = 99999;
    private static final int SHIFT = 60;
    private static final int STEAM_OF_A_FIRE = 3;
    private static final int SAFE_PRESSURE = 70;
    private static final int PRESSURE_OF_A_STOP = 30;
    private static final int TICKS_OF_A_STOP = 10;
    private static final int PRESSURE_TO_START = 10;
    private static final int WAITS_THAT_SPOIL = 3;
    private static final int LINE_ROOM = 12;
    private static final int TEXT_ROOM = 80;
    private static final int LAST_KIND = 2;
    private static final int LAST_BOILER = 1;
    private static final int LAST_MACHINE = 3;
    private static final int MOST_DIGITS = 3;
    private static final int TEXT_FAULT = -100;
    private static final int END_OF_TEXT = -1;
    private static final int NO_DIGIT = -1;

    private static final int REASON_MACHINE = 1;
    private static final int REASON_PRESSURE = 2;
    private static final int REASON_WAIT = 3;

    private final Laundry now;
    private final Laundry before;
    private final Laundry ahead;
    private final Laundry trial;
    private final Laundry snapshot;
    private final History history;
    private final OrderText text;
    private boolean hasSnapshot;
    private int stopNumber;
    private int stopError;

    public SteamRations() {
        now = new Laundry();
        before = new Laundry();
        ahead = new Laundry();
        trial = new Laundry();
        snapshot = new Laundry();
        history = new History();
        text = new OrderText();
        hasSnapshot = false;
        stopNumber = NONE;
        stopError = NONE;
    }

    // ---- boilers, coal

    public int setFire(int boiler, int fire) {
        before.copyFrom(now);
        return recorded(now.changeFire(boiler, fire));
    }

    public int fill(int boiler, int water) {
        before.copyFrom(now);
        return recorded(now.letWaterIn(boiler, water));
    }

    public int setRation(int coal) {
        before.copyFrom(now);
        return recorded(now.changeRation(coal));
    }

    // ---- loads

    public int start(int machine, int kind) {
        before.copyFrom(now);
        return recorded(now.startLoad(machine, kind, trial));
    }

    public int queue(int kind) {
        before.copyFrom(now);
        return recorded(now.addToLine(kind));
    }

    public int unqueue(int place) {
        before.copyFrom(now);
        return recorded(now.removeFromLine(place));
    }

    public int takeOut(int machine) {
        before.copyFrom(now);
        return recorded(now.unload(machine));
    }

    public int run(int ticks) {
        before.copyFrom(now);
        return recorded(now.letPass(ticks, trial));
    }

    // ---- texts

    public int type(char character) {
        return text.add(character);
    }

    public int clearText() {
        return text.empty();
    }

    public int perform() {
        int orders = text.countOrders();
        if (orders < 0) {
            return orders;
        }
        before.copyFrom(now);
        text.rewind();
        for (int number = 0; number < orders; number++) {
            int answer = obeyNextOrder();
            if (answer < 0 && answer != NONE) {
                now.copyFrom(before);
                stopNumber = number;
                stopError = answer;
                return NOT_POSSIBLE;
            }
        }
        return recorded(orders);
    }

    public int stopped(int what) {
        switch (what) {
            case 0:
                return stopNumber;
            case 1:
                return stopError;
            default:
                return BAD_VALUE;
        }
    }

    // ---- history

    public int undo() {
        return history.takeBack(now);
    }

    public int keep() {
        snapshot.copyFrom(now);
        hasSnapshot = true;
        return now.ticks;
    }

    public int restore() {
        if (!hasSnapshot) {
            return NONE;
        }
        before.copyFrom(now);
        now.copyFrom(snapshot);
        return recorded(now.ticks);
    }

    // ---- what is told

    public int boiler(int boiler, int what) {
        Boiler asked = now.boilerAt(boiler);
        if (asked == null) {
            return UNKNOWN;
        }
        switch (what) {
            case 0:
                return asked.fire;
            case 1:
                return asked.water;
            case 2:
                return asked.pressure;
            case 3:
                return asked.stopLeft;
            case 4:
                return asked.stops;
            default:
                return BAD_VALUE;
        }
    }

    public int machine(int machine, int what) {
        Machine asked = now.machineAt(machine);
        if (asked == null) {
            return UNKNOWN;
        }
        switch (what) {
            case 0:
                return asked.kind;
            case 1:
                return asked.left;
            case 2:
                return asked.waits;
            default:
                return BAD_VALUE;
        }
    }

    public int line(int place) {
        return place < 0 ? BAD_VALUE : now.waiting.kindAt(place);
    }

    public int reason(int kind) {
        return isWithin(kind, 0, LAST_KIND) ? now.reasonAgainst(kind, trial) : UNKNOWN;
    }

    public int doneIn() {
        ahead.copyFrom(now);
        for (int ticks = 0; ticks <= MOST_TICKS_TO_BE_DONE; ticks++) {
            if (ahead.isIdle()) {
                return ticks;
            }
            ahead.passTick(trial);
        }
        return NONE;
    }

    public int ifFires(int first, int second, int ticks, int what) {
        if (!isWithin(first, 0, MOST_FIRE) || !isWithin(second, 0, MOST_FIRE)) {
            return BAD_VALUE;
        }
        if (!isWithin(ticks, 1, MOST_TICKS_OF_A_RUN) || !isWithin(what, 0, 3)) {
            return BAD_VALUE;
        }
        lookAhead(first, second, ticks);
        switch (what) {
            case 0:
                return ahead.washed - now.washed;
            case 1:
                return ahead.spoiled - now.spoiled;
            case 2:
                return ahead.burnt - now.burnt;
            default:
                return ahead.safetyStops() - now.safetyStops();
        }
    }

    public int bestFires(int ticks) {
        if (!isWithin(ticks, 1, MOST_TICKS_OF_A_SEARCH)) {
            return BAD_VALUE;
        }
        int best = NONE;
        int mostWashed = 0;
        int leastBurnt = 0;
        // The fires come in the order in which the document prefers them, so only a better one replaces the best.
        for (int first = 0; first <= MOST_FIRE; first++) {
            for (int second = 0; second <= MOST_FIRE; second++) {
                lookAhead(first, second, ticks);
                boolean burnsLess = ahead.washed == mostWashed && ahead.burnt < leastBurnt;
                if (best == NONE || ahead.washed > mostWashed || burnsLess) {
                    best = 10 * first + second;
                    mostWashed = ahead.washed;
                    leastBurnt = ahead.burnt;
                }
            }
        }
        return best;
    }

    public int count(int what) {
        switch (what) {
            case 14:
                return history.size;
            case 15:
                return text.length;
            default:
                return now.account(what);
        }
    }

    // ---- helpers

    /** Acts answer nothing below 0 but errors and NONE, and these are not recorded. */
    private int recorded(int answer) {
        if (answer >= 0) {
            history.push(before);
        }
        return answer;
    }

    private int obeyNextOrder() {
        text.readNextOrder();
        switch (text.letter) {
            case 'f':
                return now.changeFire(text.target, text.value);
            case 'w':
                return now.letWaterIn(text.target, text.value);
            case 'm':
                return now.startLoad(text.target, text.value, trial);
            case 'l':
                return now.addToLine(text.value);
            default:
                return now.letPass(text.value, trial);
        }
    }

    private void lookAhead(int first, int second, int ticks) {
        ahead.copyFrom(now);
        ahead.lightFires(first, second);
        for (int tick = 0; tick < ticks; tick++) {
            ahead.passTick(trial);
        }
    }

    private static boolean isWithin(int number, int least, int most) {
        return number >= least && number <= most;
    }

    private static int ticksOf(int kind) {
        switch (kind) {
            case 0:
                return 4;
            case 1:
                return 6;
            case 2:
                return 9;
            default:
                return 0;
        }
    }

    private static int steamOf(int kind) {
        switch (kind) {
            case 0:
                return 2;
            case 1:
                return 4;
            case 2:
                return 6;
            default:
                return 0;
        }
    }

    private static int worthOf(int kind) {
        switch (kind) {
            case 0:
                return 3;
            case 1:
                return 5;
            case 2:
                return 9;
            default:
                return 0;
        }
    }

    private static final class Boiler {
        int fire;
        int water;
        int pressure;
        int stopLeft;
        int stops;

        Boiler() {
            water = 100;
        }

        void copyFrom(Boiler other) {
            fire = other.fire;
            water = other.water;
            pressure = other.pressure;
            stopLeft = other.stopLeft;
            stops = other.stops;
        }

        /** Returns the coal that it burns in this tick. */
        int burn(int coal) {
            if (stopLeft > 0) {
                stopLeft--;
                return 0;
            }
            if (coal < fire || water < fire) {
                fire = 0;
                return 0;
            }
            water -= fire;
            pressure += STEAM_OF_A_FIRE * fire;
            return fire;
        }

        void coolDown() {
            if (pressure > 0) {
                pressure--;
            }
            if (pressure > SAFE_PRESSURE) {
                pressure = PRESSURE_OF_A_STOP;
                fire = 0;
                stopLeft = TICKS_OF_A_STOP;
                stops++;
            }
        }
    }

    private static final class Machine {
        int kind;
        int left;
        int waits;

        Machine() {
            kind = NONE;
        }

        void copyFrom(Machine other) {
            kind = other.kind;
            left = other.left;
            waits = other.waits;
        }

        boolean isEmpty() {
            return kind == NONE;
        }

        void put(int newKind) {
            kind = newKind;
            left = ticksOf(newKind);
            waits = 0;
        }

        void clear() {
            kind = NONE;
            left = 0;
            waits = 0;
        }
    }

    /** The loads that start by themselves, the first of them at place 0. */
    private static final class WaitingLine {
        private final int[] kinds;
        int length;

        WaitingLine() {
            kinds = new int[LINE_ROOM];
        }

        void copyFrom(WaitingLine other) {
            length = other.length;
            for (int place = 0; place < kinds.length && place < other.kinds.length; place++) {
                kinds[place] = other.kinds[place];
            }
        }

        int kindAt(int place) {
            return place >= 0 && place < length && place < kinds.length ? kinds[place] : NONE;
        }

        int add(int kind) {
            if (length < 0 || length >= kinds.length) {
                return FULL;
            }
            kinds[length] = kind;
            length++;
            return length - 1;
        }

        int remove(int place) {
            if (place < 0 || place >= length) {
                return UNKNOWN;
            }
            int kind = kindAt(place);
            for (int later = place + 1; later < length && later < kinds.length; later++) {
                kinds[later - 1] = kinds[later];
            }
            length--;
            return kind;
        }
    }

    /** A state: all that undo and the snapshot bring back. */
    private static final class Laundry {
        private final Boiler[] boilers;
        private final Machine[] machines;
        final WaitingLine waiting;
        int ticks;
        int washed;
        int spoiled;
        int burnt;
        private int coal;
        private int ration;
        private int rationed;
        private int started;
        private int takenOut;
        private int worth;
        private int ticksOfWaits;

        Laundry() {
            boilers = new Boiler[] {new Boiler(), new Boiler()};
            machines = new Machine[] {new Machine(), new Machine(), new Machine(), new Machine()};
            waiting = new WaitingLine();
            coal = 50;
            ration = 40;
        }

        void copyFrom(Laundry other) {
            for (int i = 0; i < boilers.length && i < other.boilers.length; i++) {
                boilers[i].copyFrom(other.boilers[i]);
            }
            for (int i = 0; i < machines.length && i < other.machines.length; i++) {
                machines[i].copyFrom(other.machines[i]);
            }
            waiting.copyFrom(other.waiting);
            ticks = other.ticks;
            washed = other.washed;
            spoiled = other.spoiled;
            burnt = other.burnt;
            coal = other.coal;
            ration = other.ration;
            rationed = other.rationed;
            started = other.started;
            takenOut = other.takenOut;
            worth = other.worth;
            ticksOfWaits = other.ticksOfWaits;
        }

        // ---- what is in it

        Boiler boilerAt(int number) {
            return number >= 0 && number < boilers.length ? boilers[number] : null;
        }

        Machine machineAt(int number) {
            return number >= 0 && number < machines.length ? machines[number] : null;
        }

        Machine lowestEmptyMachine() {
            for (Machine machine : machines) {
                if (machine.isEmpty()) {
                    return machine;
                }
            }
            return null;
        }

        int loadsInMachines() {
            int loads = 0;
            for (Machine machine : machines) {
                if (!machine.isEmpty()) {
                    loads++;
                }
            }
            return loads;
        }

        boolean isIdle() {
            return waiting.length == 0 && loadsInMachines() == 0;
        }

        int allPressure() {
            int sum = 0;
            for (Boiler boiler : boilers) {
                sum += boiler.pressure;
            }
            return sum;
        }

        int safetyStops() {
            int sum = 0;
            for (Boiler boiler : boilers) {
                sum += boiler.stops;
            }
            return sum;
        }

        int account(int what) {
            switch (what) {
                case 0:
                    return ticks;
                case 1:
                    return coal;
                case 2:
                    return burnt;
                case 3:
                    return rationed;
                case 4:
                    return ration;
                case 5:
                    return loadsInMachines();
                case 6:
                    return waiting.length;
                case 7:
                    return started;
                case 8:
                    return washed;
                case 9:
                    return spoiled;
                case 10:
                    return takenOut;
                case 11:
                    return worth;
                case 12:
                    return allPressure();
                case 13:
                    return ticksOfWaits;
                default:
                    return BAD_VALUE;
            }
        }

        // ---- the acts; one that answers an error or NONE changes nothing

        int changeFire(int number, int fire) {
            Boiler boiler = boilerAt(number);
            if (boiler == null) {
                return UNKNOWN;
            }
            if (!isWithin(fire, 0, MOST_FIRE)) {
                return BAD_VALUE;
            }
            if (boiler.stopLeft > 0) {
                return NOT_POSSIBLE;
            }
            if (boiler.fire == fire) {
                return NONE;
            }
            int previous = boiler.fire;
            boiler.fire = fire;
            return previous;
        }

        int letWaterIn(int number, int water) {
            Boiler boiler = boilerAt(number);
            if (boiler == null) {
                return UNKNOWN;
            }
            if (!isWithin(water, 1, MOST_WATER)) {
                return BAD_VALUE;
            }
            if (boiler.water + water > MOST_WATER) {
                return FULL;
            }
            boiler.water += water;
            return boiler.water;
        }

        int changeRation(int newRation) {
            if (!isWithin(newRation, 0, MOST_RATION)) {
                return BAD_VALUE;
            }
            if (newRation == ration) {
                return NONE;
            }
            int previous = ration;
            ration = newRation;
            return previous;
        }

        int startLoad(int number, int kind, Laundry trial) {
            Machine machine = machineAt(number);
            if (machine == null || !isWithin(kind, 0, LAST_KIND)) {
                return UNKNOWN;
            }
            // All machines work alike, so a trial in any empty one tells for this one, too.
            int reason = machine.isEmpty() ? reasonAgainst(kind, trial) : REASON_MACHINE;
            if (reason != 0) {
                return NOT_STARTED - reason;
            }
            machine.put(kind);
            started++;
            return machine.left;
        }

        int addToLine(int kind) {
            return isWithin(kind, 0, LAST_KIND) ? waiting.add(kind) : UNKNOWN;
        }

        int removeFromLine(int place) {
            return waiting.remove(place);
        }

        int unload(int number) {
            Machine machine = machineAt(number);
            if (machine == null) {
                return UNKNOWN;
            }
            if (machine.isEmpty()) {
                return NOT_POSSIBLE;
            }
            int left = machine.left;
            machine.clear();
            takenOut++;
            return left;
        }

        int letPass(int newTicks, Laundry trial) {
            if (!isWithin(newTicks, 1, MOST_TICKS_OF_A_RUN)) {
                return BAD_VALUE;
            }
            if (ticks + newTicks > MOST_TICKS) {
                return FULL;
            }
            int washedBefore = washed;
            for (int tick = 0; tick < newTicks; tick++) {
                passTick(trial);
            }
            return washed - washedBefore;
        }

        // ---- ticks

        /** Unlike changeFire(), this reaches stopped boilers, too: it is for looking ahead. */
        void lightFires(int first, int second) {
            Boiler boiler0 = boilerAt(0);
            Boiler boiler1 = boilerAt(1);
            if (boiler0 != null && boiler1 != null) {
                boiler0.fire = first;
                boiler1.fire = second;
            }
        }

        void passTick(Laundry trial) {
            workTick();
            int kind = waiting.kindAt(0);
            if (kind == NONE || reasonAgainst(kind, trial) != 0) {
                return;
            }
            Machine machine = lowestEmptyMachine();
            if (machine != null) {
                waiting.remove(0);
                machine.put(kind);
                started++;
            }
        }

        /** Returns 0 if such a load can be started; the trial is overwritten. */
        int reasonAgainst(int kind, Laundry trial) {
            if (lowestEmptyMachine() == null) {
                return REASON_MACHINE;
            }
            if (allPressure() < PRESSURE_TO_START) {
                return REASON_PRESSURE;
            }
            trial.copyFrom(this);
            Machine machine = trial.lowestEmptyMachine();
            if (machine == null) {
                return REASON_MACHINE;
            }
            machine.put(kind);
            int needed = ticksOf(kind);
            for (int tick = 0; tick < needed; tick++) {
                if (trial.workTick()) {
                    return REASON_WAIT;
                }
            }
            return 0;
        }

        /** All of a tick but its last step, the line; returns whether loads wait in it. */
        private boolean workTick() {
            ticks++;
            if (ticks % SHIFT == 0) {
                receiveRation();
            }
            for (Boiler boiler : boilers) {
                int used = boiler.burn(coal);
                coal -= used;
                burnt += used;
            }
            int need = need();
            boolean wait = allPressure() < need;
            if (wait) {
                holdLoads();
            } else {
                takeSteam(need);
                workLoads();
            }
            for (Boiler boiler : boilers) {
                boiler.coolDown();
            }
            return wait;
        }

        private void receiveRation() {
            int received = Math.min(ration, MOST_COAL - coal);
            coal += received;
            rationed += received;
        }

        private int need() {
            int steam = 0;
            for (Machine machine : machines) {
                steam += steamOf(machine.kind);
            }
            return steam;
        }

        private void takeSteam(int need) {
            for (int taken = 0; taken < need; taken++) {
                Boiler fullest = null;
                for (Boiler boiler : boilers) {
                    if (fullest == null || boiler.pressure > fullest.pressure) {
                        fullest = boiler;
                    }
                }
                if (fullest != null) {
                    fullest.pressure--;
                }
            }
        }

        private void workLoads() {
            for (Machine machine : machines) {
                if (machine.isEmpty()) {
                    continue;
                }
                machine.left--;
                if (machine.left == 0) {
                    washed++;
                    worth += worthOf(machine.kind);
                    machine.clear();
                }
            }
        }

        private void holdLoads() {
            ticksOfWaits++;
            for (Machine machine : machines) {
                if (machine.isEmpty()) {
                    continue;
                }
                machine.waits++;
                if (machine.waits == WAITS_THAT_SPOIL) {
                    spoiled++;
                    machine.clear();
                }
            }
        }
    }

    /** The states before the latest acts, the oldest one first. */
    private static final class History {
        private final Laundry[] states;
        int size;

        History() {
            states = new Laundry[] {new Laundry(), new Laundry(), new Laundry(), new Laundry()};
        }

        void push(Laundry state) {
            if (size >= states.length) {
                dropOldest();
            }
            if (size >= 0 && size < states.length) {
                states[size].copyFrom(state);
                size++;
            }
        }

        int takeBack(Laundry into) {
            if (size < 1 || size > states.length) {
                return NONE;
            }
            size--;
            into.copyFrom(states[size]);
            return size;
        }

        /** The oldest one's object goes to the end, to be written over: nothing new is made. */
        private void dropOldest() {
            if (states.length == 0) {
                return;
            }
            Laundry oldest = states[0];
            for (int later = 1; later < states.length; later++) {
                states[later - 1] = states[later];
            }
            states[states.length - 1] = oldest;
            size--;
        }
    }

    /** The text, and a reader that goes through its orders. */
    private static final class OrderText {
        private final char[] characters;
        private int place;
        int length;
        int letter;
        int target;
        int value;

        OrderText() {
            characters = new char[TEXT_ROOM];
        }

        int add(char character) {
            if (length < 0 || length >= characters.length) {
                return FULL;
            }
            characters[length] = character;
            length++;
            return length;
        }

        int empty() {
            int had = length;
            length = 0;
            return had;
        }

        /** Where reading fails, the place is the fault: what comes there is not allowed, or nothing comes. */
        int countOrders() {
            rewind();
            for (int orders = 1; orders <= TEXT_ROOM; orders++) {
                if (!readOrder()) {
                    return TEXT_FAULT - place;
                }
                if (place == length) {
                    return orders;
                }
                if (!accept(',')) {
                    return TEXT_FAULT - place;
                }
            }
            return TEXT_FAULT - place;
        }

        void rewind() {
            place = 0;
        }

        /** For texts without a fault: all but the first order have a comma ahead. */
        void readNextOrder() {
            accept(',');
            readOrder();
        }

        private boolean readOrder() {
            letter = here();
            if (accept('f')) {
                return readTarget(LAST_BOILER) && readValue(0, MOST_FIRE);
            }
            if (accept('w')) {
                return readTarget(LAST_BOILER) && readValue(1, MOST_WATER);
            }
            if (accept('m')) {
                return readTarget(LAST_MACHINE) && readValue(0, LAST_KIND);
            }
            if (accept('l')) {
                return readValue(0, LAST_KIND);
            }
            return accept('t') && readValue(1, MOST_TICKS_OF_A_RUN);
        }

        private boolean readTarget(int most) {
            if (!readValue(0, most)) {
                return false;
            }
            target = value;
            return accept(':');
        }

        /** Stops ahead of a digit that is not allowed, for no sign that may follow a number is a digit. */
        private boolean readValue(int least, int most) {
            int digit = digitHere();
            if (!isWithin(digit, least, most)) {
                return false;
            }
            value = digit;
            place++;
            for (int digits = 1; digits < MOST_DIGITS && value > 0; digits++) {
                digit = digitHere();
                if (digit == NO_DIGIT || 10 * value + digit > most) {
                    return true;
                }
                value = 10 * value + digit;
                place++;
            }
            return true;
        }

        private boolean accept(char character) {
            if (here() != character) {
                return false;
            }
            place++;
            return true;
        }

        private int digitHere() {
            int sign = here();
            return isWithin(sign, '0', '9') ? sign - '0' : NO_DIGIT;
        }

        private int here() {
            if (place < 0 || place >= length || place >= characters.length) {
                return END_OF_TEXT;
            }
            return characters[place];
        }
    }
}
