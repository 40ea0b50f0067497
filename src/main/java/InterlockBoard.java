/**
 * The interlocks of a kiln shuttle as a board of truth: by which inputs, locks and bridges
 * motions are permitted, and which input stopped them.
 *
 * <p>Sets of inputs and sets of motions are bit masks throughout. Every public call looks at all
 * its arguments and at what stands against it before it changes anything.
 */
public final class InterlockBoard {
    public static final int INVALID_ARGUMENT = -1;
    public static final int NOT_POSSIBLE = -2;
    public static final int LIMIT_REACHED = -3;
    public static final int NOT_FOUND = -4;

    private static final int MOST_INPUTS = 16;
    private static final int MOST_INTERVAL = 5000;
    private static final int KEYS = 6;
    private static final int MOST_BRIDGED = 3;
    private static final int MOST_TICKS_BRIDGED = 500;
    private static final int MOTIONS = 6;
    private static final int MOST_ROWS = 4;
    private static final int MOST_INPUTS_OF_WAYS = 12;
    private static final int TICKS_FOR_TEST = 20;
    private static final int MOST_TICKS_A_RUN = 500;
    private static final int MOST_TICKS = 100000;
    private static final int MOST_STATES = 4;
    private static final int SNAPSHOTS = 2;
    private static final int MOST_SIGNS = 80;

    /** No key, no guard, no first out, no tick, no place. */
    private static final int NONE = -1;

    private static final int NO_TEST = 0;
    private static final int TEST_BEGUN = 1;
    private static final int TEST_OPENED = 2;

    private static final int RUNS_ALREADY = 1;
    private static final int HAS_FIRST_OUT = 2;
    private static final int NOT_PERMITTED = 3;
    private static final int EXCLUDED = 4;

    private static final int NO_FAULT = 0;
    private static final int WRONG_FORM = 1;
    private static final int NO_SUCH_INPUT = 2;
    private static final int MOTION_RUNS = 3;
    private static final int TOO_MANY_ROWS = 4;

    private final State now;
    /** The oldest state first; those behind historySize wait to be used again. */
    private final State[] history;
    private int historySize;
    private final State[] snapshots;
    /** The places at which there is a snapshot. */
    private int snapshotsTaken;
    private final Text text;

    public InterlockBoard() {
        now = new State();
        history = new State[MOST_STATES];
        for (int place = 0; place < MOST_STATES; place++) {
            history[place] = new State();
        }
        historySize = 0;
        snapshots = new State[SNAPSHOTS];
        for (int place = 0; place < SNAPSHOTS; place++) {
            snapshots[place] = new State();
        }
        snapshotsTaken = 0;
        text = new Text();
    }

    // ---- inputs

    public int sensor(int interval) {
        if (interval < 0 || interval > MOST_INTERVAL) {
            return INVALID_ARGUMENT;
        }
        if (now.inputs.size >= MOST_INPUTS) {
            return LIMIT_REACHED;
        }
        remember();
        return now.inputs.add(NONE, NONE, interval);
    }

    public int lock(int key, int guard) {
        if (!isKey(key) || (guard != NONE && !isInput(guard))) {
            return INVALID_ARGUMENT;
        }
        if (now.inputs.size >= MOST_INPUTS) {
            return LIMIT_REACHED;
        }
        remember();
        return now.inputs.add(key, guard, 0);
    }

    public int essential(int input, int is) {
        if (!isInput(input) || !isYesOrNo(is)) {
            return INVALID_ARGUMENT;
        }
        if (is == 1 && has(now.inputs.bridgedOnes(), input)) {
            return NOT_POSSIBLE;
        }
        remember();
        int was = bitOf(now.inputs.essentialOnes, input);
        now.inputs.essentialOnes = with(now.inputs.essentialOnes, input, is == 1);
        return was;
    }

    public int input(int input, int closed) {
        if (!isInput(input) || !isYesOrNo(closed)) {
            return INVALID_ARGUMENT;
        }
        if (now.inputs.isLock(input)) {
            return NOT_POSSIBLE;
        }
        remember();
        int closedAhead = now.inputs.countingAsClosed();
        if (closed == 1) {
            now.inputs.closeSensor(input);
        } else {
            now.inputs.openSensor(input);
        }
        return lookAtMotions(closedAhead);
    }

    public int inputInfo(int input, int what) {
        if (!isInput(input)) {
            return INVALID_ARGUMENT;
        }
        Inputs inputs = now.inputs;
        switch (what) {
            case 0: return inputs.isLock(input) ? 1 : 0;
            case 1: return bitOf(inputs.closedOnes, input);
            case 2: return bitOf(inputs.countingAsClosed(), input);
            case 3: return bitOf(inputs.essentialOnes, input);
            case 4: return bitOf(inputs.overdueOnes(), input);
            case 5: return inputs.interval[input];
            case 6: return inputs.tested[input];
            case 7: return inputs.bridgeLeft[input];
            case 8: return inputs.bridgedTicks[input];
            case 9: return inputs.testPhase[input];
            case 10: return orNotFound(inputs.keyOf[input]);
            case 11: return orNotFound(inputs.guard[input]);
            default: return INVALID_ARGUMENT;
        }
    }

    // ---- keys and bridges

    public int keyIn(int key, int input) {
        if (!isKey(key) || !isInput(input)) {
            return INVALID_ARGUMENT;
        }
        if (now.inputs.placeOfKey(key) != NONE || now.inputs.keyOf[input] != key) {
            return NOT_POSSIBLE;
        }
        remember();
        now.inputs.closedOnes = with(now.inputs.closedOnes, input, true);
        return now.inputs.keysInLocks();
    }

    public int keyOut(int key) {
        if (!isKey(key)) {
            return INVALID_ARGUMENT;
        }
        int place = now.inputs.placeOfKey(key);
        if (place == NONE || !now.inputs.guardAllows(place)) {
            return NOT_POSSIBLE;
        }
        remember();
        int closedAhead = now.inputs.countingAsClosed();
        now.inputs.closedOnes = with(now.inputs.closedOnes, place, false);
        return lookAtMotions(closedAhead);
    }

    public int key(int key) {
        if (!isKey(key)) {
            return INVALID_ARGUMENT;
        }
        return orNotFound(now.inputs.placeOfKey(key));
    }

    public int bridge(int input, int ticks) {
        if (!isInput(input) || ticks < 1 || ticks > MOST_TICKS_BRIDGED) {
            return INVALID_ARGUMENT;
        }
        int bridgedOnes = now.inputs.bridgedOnes();
        if (has(now.inputs.essentialOnes, input) || has(bridgedOnes, input)) {
            return NOT_POSSIBLE;
        }
        if (Integer.bitCount(bridgedOnes) >= MOST_BRIDGED) {
            return LIMIT_REACHED;
        }
        remember();
        now.inputs.bridgeLeft[input] = ticks;
        return Integer.bitCount(now.inputs.bridgedOnes());
    }

    public int unbridge(int input) {
        if (!isInput(input)) {
            return INVALID_ARGUMENT;
        }
        if (!has(now.inputs.bridgedOnes(), input)) {
            return NOT_POSSIBLE;
        }
        remember();
        int closedAhead = now.inputs.countingAsClosed();
        now.inputs.bridgeLeft[input] = 0;
        return lookAtMotions(closedAhead);
    }

    public int bridged(int place) {
        if (place < 0) {
            return INVALID_ARGUMENT;
        }
        int later = now.inputs.bridgedOnes();
        if (place >= Integer.bitCount(later)) {
            return NOT_FOUND;
        }
        for (int passed = 0; passed < place; passed++) {
            later = with(later, now.inputs.endsFirst(later), false);
        }
        return now.inputs.endsFirst(later);
    }

    // ---- motions

    public int row(int motion, int inputs) {
        if (!isMotion(motion) || inputs == 0 || (inputs & ~now.inputs.all()) != 0) {
            return INVALID_ARGUMENT;
        }
        if (has(now.motions.running, motion)) {
            return NOT_POSSIBLE;
        }
        if (now.motions.rowCount[motion] >= MOST_ROWS) {
            return LIMIT_REACHED;
        }
        remember();
        return now.motions.addRow(motion, inputs);
    }

    public int dropRows(int motion) {
        if (!isMotion(motion)) {
            return INVALID_ARGUMENT;
        }
        if (has(now.motions.running, motion)) {
            return NOT_POSSIBLE;
        }
        remember();
        int dropped = now.motions.rowCount[motion];
        now.motions.rowCount[motion] = 0;
        return dropped;
    }

    public int exclude(int a, int b, int is) {
        if (!isMotion(a) || !isMotion(b) || a == b || !isYesOrNo(is)) {
            return INVALID_ARGUMENT;
        }
        Motions motions = now.motions;
        if (is == 1 && has(motions.running, a) && has(motions.running, b)) {
            return NOT_POSSIBLE;
        }
        remember();
        int was = bitOf(motions.excluders[a], b);
        motions.excluders[a] = with(motions.excluders[a], b, is == 1);
        motions.excluders[b] = with(motions.excluders[b], a, is == 1);
        return was;
    }

    public int start(int motion) {
        if (!isMotion(motion)) {
            return INVALID_ARGUMENT;
        }
        if (reasonAgainstStart(motion) != 0) {
            return NOT_POSSIBLE;
        }
        remember();
        now.motions.begin(motion);
        return Integer.bitCount(now.motions.running);
    }

    public int why(int motion) {
        if (!isMotion(motion)) {
            return INVALID_ARGUMENT;
        }
        return reasonAgainstStart(motion);
    }

    public int stop(int motion) {
        if (!isMotion(motion)) {
            return INVALID_ARGUMENT;
        }
        if (!has(now.motions.running, motion)) {
            return NOT_POSSIBLE;
        }
        remember();
        now.motions.running = with(now.motions.running, motion, false);
        return now.motions.ticksSinceStart[motion];
    }

    public int reset(int motion) {
        if (!isMotion(motion)) {
            return INVALID_ARGUMENT;
        }
        int firstOut = now.motions.firstOut[motion];
        if (firstOut == NONE) {
            return NOT_POSSIBLE;
        }
        remember();
        now.motions.firstOut[motion] = NONE;
        return firstOut;
    }

    public int motion(int motion, int what) {
        if (!isMotion(motion)) {
            return INVALID_ARGUMENT;
        }
        Motions motions = now.motions;
        switch (what) {
            case 0: return motions.rowCount[motion];
            case 1: return isPermitted(motion) ? 1 : 0;
            case 2: return bitOf(motions.running, motion);
            case 3: return orNotFound(motions.firstOut[motion]);
            case 4: return orNotFound(motions.tickOfStop[motion]);
            case 5: return motions.ticksInAll[motion];
            case 6: return motions.starts[motion];
            case 7: return motions.stopsByInput[motion];
            case 8: case 9: case 10: case 11: return rowOrNotFound(motion, what - 8);
            case 12: return motions.excluders[motion];
            default: return INVALID_ARGUMENT;
        }
    }

    public int ways(int motion) {
        if (!isMotion(motion)) {
            return INVALID_ARGUMENT;
        }
        int all = now.motions.inputsOf(motion);
        if (Integer.bitCount(all) > MOST_INPUTS_OF_WAYS) {
            return LIMIT_REACHED;
        }
        int ways = 0;
        int closedOnes = 0;
        int waysInAll = 1 << Integer.bitCount(all);
        for (int way = 0; way < waysInAll; way++) {
            if (now.motions.isPermitted(motion, closedOnes)) {
                ways++;
            }
            // the borrow runs through the bits outside of all, so this is the next subset of it
            closedOnes = (closedOnes - all) & all;
        }
        return ways;
    }

    public int waysAgain(int motion) {
        if (!isMotion(motion)) {
            return INVALID_ARGUMENT;
        }
        int all = now.motions.inputsOf(motion);
        if (Integer.bitCount(all) > MOST_INPUTS_OF_WAYS) {
            return LIMIT_REACHED;
        }
        int ways = 0;
        int setsOfRows = 1 << now.motions.rowCount[motion];
        for (int rows = 1; rows < setsOfRows; rows++) {
            int inNone = all & ~now.motions.inputsOfRows(motion, rows);
            int free = 1 << Integer.bitCount(inNone);
            boolean odd = Integer.bitCount(rows) % 2 == 1;
            ways += odd ? free : -free;
        }
        return ways;
    }

    public int needed(int motion) {
        if (!isMotion(motion)) {
            return INVALID_ARGUMENT;
        }
        if (now.motions.rowCount[motion] == 0) {
            return NOT_FOUND;
        }
        return now.motions.fewestOpen(motion, now.inputs.countingAsClosed());
    }

    // ---- tests and time

    public int test(int input) {
        if (!isInput(input)) {
            return INVALID_ARGUMENT;
        }
        if (!now.inputs.canBeTested(input)) {
            return NOT_POSSIBLE;
        }
        remember();
        return now.inputs.beginTest(input);
    }

    public int run(int ticks) {
        if (ticks < 1 || ticks > MOST_TICKS_A_RUN) {
            return INVALID_ARGUMENT;
        }
        if (now.inputs.ticks + ticks > MOST_TICKS) {
            return LIMIT_REACHED;
        }
        remember();
        int stopped = 0;
        int closedAhead = now.inputs.countingAsClosed();
        for (int gone = 0; gone < ticks; gone++) {
            now.inputs.tick();
            int closed = now.inputs.countingAsClosed();
            stopped += now.motions.stopUnpermitted(closedAhead, closed, now.inputs.ticks);
            now.motions.countTick();
            closedAhead = closed;
        }
        return stopped;
    }

    public int count(int what) {
        Inputs inputs = now.inputs;
        Motions motions = now.motions;
        switch (what) {
            case 0: return inputs.size;
            case 1: return Integer.bitCount(inputs.countingAsClosed());
            case 2: return Integer.bitCount(inputs.overdueOnes());
            case 3: return Integer.bitCount(inputs.bridgedOnes());
            case 4: return inputs.keysInLocks();
            case 5: return Integer.bitCount(motions.running);
            case 6: return motions.permittedOnes(inputs.countingAsClosed());
            case 7: return motions.withFirstOut();
            case 8: return inputs.ticks;
            case 9: return sum(motions.ticksInAll);
            case 10: return sum(motions.starts);
            case 11: return sum(motions.stopsByInput);
            case 12: return sum(inputs.bridgedTicks);
            case 13: return inputs.testsDone;
            case 14: return historySize;
            case 15: return text.length;
            case 16: return Integer.bitCount(snapshotsTaken);
            default: return INVALID_ARGUMENT;
        }
    }

    public int snapshot(int place) {
        if (!isSnapshotPlace(place)) {
            return INVALID_ARGUMENT;
        }
        snapshots[place].copyFrom(now);
        snapshotsTaken = with(snapshotsTaken, place, true);
        return Integer.bitCount(snapshotsTaken);
    }

    public int restore(int place) {
        if (!isSnapshotPlace(place)) {
            return INVALID_ARGUMENT;
        }
        if (!has(snapshotsTaken, place)) {
            return NOT_POSSIBLE;
        }
        remember();
        now.copyFrom(snapshots[place]);
        return now.inputs.ticks;
    }

    public int undo() {
        if (historySize == 0) {
            return NOT_POSSIBLE;
        }
        historySize--;
        now.copyFrom(history[historySize]);
        return historySize;
    }

    // ---- texts

    public int type(int character) {
        if (character < 32 || character > 126) {
            return INVALID_ARGUMENT;
        }
        if (text.length >= MOST_SIGNS) {
            return LIMIT_REACHED;
        }
        text.signs[text.length] = (char) character;
        text.length++;
        return text.length;
    }

    public int clearText() {
        int had = text.length;
        text.length = 0;
        return had;
    }

    public int fault(int what) {
        if (what != 0 && what != 1) {
            return INVALID_ARGUMENT;
        }
        int from = placeOfFault();
        if (from == NONE) {
            return NOT_FOUND;
        }
        return what == 0 ? from : faultOfRow(from, text.endOfRow(from));
    }

    public int read() {
        if (placeOfFault() != NONE) {
            return NOT_POSSIBLE;
        }
        remember();
        int rows = 0;
        int from = 0;
        for (int at = 0; at < text.length; at++) {
            if (text.signs[at] == ';') {
                now.motions.addRow(text.motionOfRow(from), text.inputsOfRow(from, at));
                rows++;
                from = at + 1;
            }
        }
        return rows;
    }

    // ---- what the calls share

    private boolean isInput(int number) {
        return number >= 0 && number < now.inputs.size;
    }

    private static boolean isKey(int number) {
        return number >= 0 && number < KEYS;
    }

    private static boolean isMotion(int number) {
        return number >= 0 && number < MOTIONS;
    }

    private static boolean isSnapshotPlace(int place) {
        return place >= 0 && place < SNAPSHOTS;
    }

    private static boolean isYesOrNo(int is) {
        return is == 0 || is == 1;
    }

    private static boolean has(int set, int member) {
        return bitOf(set, member) == 1;
    }

    private static int bitOf(int set, int member) {
        return (set >> member) & 1;
    }

    private static int with(int set, int member, boolean isIn) {
        int bit = 1 << member;
        return isIn ? set | bit : set & ~bit;
    }

    private static int least(int set) {
        for (int member = 0; member < MOST_INPUTS; member++) {
            if (has(set, member)) {
                return member;
            }
        }
        return NONE;
    }

    private static int sum(int[] numbers) {
        int sum = 0;
        for (int number : numbers) {
            sum += number;
        }
        return sum;
    }

    private static void copyAll(int[] from, int[] to) {
        System.arraycopy(from, 0, to, 0, Math.min(from.length, to.length));
    }

    private static int orNotFound(int number) {
        return number == NONE ? NOT_FOUND : number;
    }

    private int rowOrNotFound(int motion, int place) {
        if (place >= now.motions.rowCount[motion]) {
            return NOT_FOUND;
        }
        return now.motions.rowAt(motion, place);
    }

    private boolean isPermitted(int motion) {
        return now.motions.isPermitted(motion, now.inputs.countingAsClosed());
    }

    private int reasonAgainstStart(int motion) {
        Motions motions = now.motions;
        if (has(motions.running, motion)) {
            return RUNS_ALREADY;
        }
        if (motions.firstOut[motion] != NONE) {
            return HAS_FIRST_OUT;
        }
        if (!isPermitted(motion)) {
            return NOT_PERMITTED;
        }
        return (motions.running & motions.excluders[motion]) != 0 ? EXCLUDED : 0;
    }

    /** Called by each change before it changes anything, when no error can come any more. */
    private void remember() {
        if (historySize >= MOST_STATES) {
            forgetOldest();
        }
        history[historySize].copyFrom(now);
        historySize++;
    }

    private void forgetOldest() {
        State oldest = history[0];
        for (int place = 1; place < MOST_STATES; place++) {
            history[place - 1] = history[place];
        }
        history[MOST_STATES - 1] = oldest;
        historySize = MOST_STATES - 1;
    }

    /**
     * Stops the motions that are not permitted any more; answers how many these are. Only the
     * changes by which an input can begin to count as open call it: a motion that runs is
     * permitted after each call, and no other change can end that.
     */
    private int lookAtMotions(int closedAhead) {
        return now.motions.stopUnpermitted(closedAhead, now.inputs.countingAsClosed(),
                now.inputs.ticks);
    }

    private int placeOfFault() {
        int from = 0;
        for (int at = 0; at < text.length; at++) {
            if (text.signs[at] == ';') {
                if (faultOfRow(from, at) != NO_FAULT) {
                    return from;
                }
                from = at + 1;
            }
        }
        return from < text.length ? from : NONE;
    }

    private int faultOfRow(int from, int end) {
        if (!text.isRow(from, end)) {
            return WRONG_FORM;
        }
        if (text.highestInputOfRow(from, end) >= now.inputs.size) {
            return NO_SUCH_INPUT;
        }
        int motion = text.motionOfRow(from);
        if (has(now.motions.running, motion)) {
            return MOTION_RUNS;
        }
        int ahead = now.motions.rowCount[motion] + text.rowsOfMotion(motion, from);
        return ahead >= MOST_ROWS ? TOO_MANY_ROWS : NO_FAULT;
    }

    /** All that a snapshot or the history keeps. */
    private static final class State {
        final Inputs inputs = new Inputs();
        final Motions motions = new Motions();

        void copyFrom(State other) {
            inputs.copyFrom(other.inputs);
            motions.copyFrom(other.motions);
        }
    }

    /** The inputs with their bridges and tests, and the ticks by which these end. */
    private static final class Inputs {
        int size = 0;
        int ticks = 0;
        int testsDone = 0;
        /** Those closed themselves; a closed lock is one that its key is in. */
        int closedOnes = 0;
        int essentialOnes = 0;
        /** NONE for a sensor. */
        final int[] keyOf = new int[MOST_INPUTS];
        final int[] guard = new int[MOST_INPUTS];
        final int[] interval = new int[MOST_INPUTS];
        final int[] tested = new int[MOST_INPUTS];
        /** 0 for one that is not bridged. */
        final int[] bridgeLeft = new int[MOST_INPUTS];
        final int[] bridgedTicks = new int[MOST_INPUTS];
        final int[] testPhase = new int[MOST_INPUTS];
        final int[] lastTickOfTest = new int[MOST_INPUTS];

        void copyFrom(Inputs other) {
            size = other.size;
            ticks = other.ticks;
            testsDone = other.testsDone;
            closedOnes = other.closedOnes;
            essentialOnes = other.essentialOnes;
            copyAll(other.keyOf, keyOf);
            copyAll(other.guard, guard);
            copyAll(other.interval, interval);
            copyAll(other.tested, tested);
            copyAll(other.bridgeLeft, bridgeLeft);
            copyAll(other.bridgedTicks, bridgedTicks);
            copyAll(other.testPhase, testPhase);
            copyAll(other.lastTickOfTest, lastTickOfTest);
        }

        int add(int keyOfIt, int guardOfIt, int intervalOfIt) {
            int added = size;
            keyOf[added] = keyOfIt;
            guard[added] = guardOfIt;
            interval[added] = intervalOfIt;
            tested[added] = ticks;
            size++;
            return added;
        }

        int all() {
            return (1 << size) - 1;
        }

        boolean isLock(int input) {
            return keyOf[input] != NONE;
        }

        int overdueOnes() {
            int overdue = 0;
            for (int input = 0; input < size; input++) {
                boolean isLate = interval[input] > 0 && ticks - tested[input] > interval[input];
                overdue = with(overdue, input, isLate);
            }
            return overdue;
        }

        int bridgedOnes() {
            int bridged = 0;
            for (int input = 0; input < size; input++) {
                bridged = with(bridged, input, bridgeLeft[input] > 0);
            }
            return bridged;
        }

        int countingAsClosed() {
            return bridgedOnes() | (closedOnes & ~overdueOnes());
        }

        /** Of these bridged inputs the one whose bridge ends first, the least of several. */
        int endsFirst(int bridged) {
            int first = NONE;
            for (int input = 0; input < size; input++) {
                if (has(bridged, input)
                        && (first == NONE || bridgeLeft[input] < bridgeLeft[first])) {
                    first = input;
                }
            }
            return first;
        }

        int placeOfKey(int key) {
            for (int input = 0; input < size; input++) {
                if (keyOf[input] == key && has(closedOnes, input)) {
                    return input;
                }
            }
            return NONE;
        }

        int keysInLocks() {
            int inLocks = 0;
            for (int input = 0; input < size; input++) {
                if (isLock(input) && has(closedOnes, input)) {
                    inLocks++;
                }
            }
            return inLocks;
        }

        boolean guardAllows(int lock) {
            return guard[lock] == NONE || has(countingAsClosed(), guard[lock]);
        }

        boolean canBeTested(int input) {
            return !isLock(input) && has(closedOnes, input) && testPhase[input] == NO_TEST;
        }

        int beginTest(int sensor) {
            testPhase[sensor] = TEST_BEGUN;
            lastTickOfTest[sensor] = ticks + TICKS_FOR_TEST;
            return lastTickOfTest[sensor];
        }

        void openSensor(int sensor) {
            closedOnes = with(closedOnes, sensor, false);
            if (testPhase[sensor] == TEST_BEGUN) {
                testPhase[sensor] = TEST_OPENED;
            }
        }

        void closeSensor(int sensor) {
            closedOnes = with(closedOnes, sensor, true);
            if (testPhase[sensor] == TEST_OPENED) {
                testPhase[sensor] = NO_TEST;
                tested[sensor] = ticks;
                testsDone++;
            }
        }

        void tick() {
            ticks++;
            for (int input = 0; input < size; input++) {
                if (bridgeLeft[input] > 0) {
                    bridgeLeft[input]--;
                    bridgedTicks[input]++;
                }
                if (ticks > lastTickOfTest[input]) {
                    testPhase[input] = NO_TEST;
                }
            }
        }
    }

    /** The motions with their rows, and what has become of them. */
    private static final class Motions {
        int running = 0;
        /** The rows of a motion stand one behind the other, MOST_ROWS places for each. */
        final int[] rows = new int[MOTIONS * MOST_ROWS];
        final int[] rowCount = new int[MOTIONS];
        final int[] excluders = new int[MOTIONS];
        final int[] firstOut = new int[MOTIONS];
        final int[] tickOfStop = new int[MOTIONS];
        final int[] stopsByInput = new int[MOTIONS];
        final int[] starts = new int[MOTIONS];
        final int[] ticksSinceStart = new int[MOTIONS];
        final int[] ticksInAll = new int[MOTIONS];

        Motions() {
            for (int motion = 0; motion < MOTIONS; motion++) {
                firstOut[motion] = NONE;
                tickOfStop[motion] = NONE;
            }
        }

        void copyFrom(Motions other) {
            running = other.running;
            copyAll(other.rows, rows);
            copyAll(other.rowCount, rowCount);
            copyAll(other.excluders, excluders);
            copyAll(other.firstOut, firstOut);
            copyAll(other.tickOfStop, tickOfStop);
            copyAll(other.stopsByInput, stopsByInput);
            copyAll(other.starts, starts);
            copyAll(other.ticksSinceStart, ticksSinceStart);
            copyAll(other.ticksInAll, ticksInAll);
        }

        int rowAt(int motion, int place) {
            return rows[motion * MOST_ROWS + place];
        }

        int addRow(int motion, int inputs) {
            rows[motion * MOST_ROWS + rowCount[motion]] = inputs;
            rowCount[motion]++;
            return rowCount[motion];
        }

        int inputsOf(int motion) {
            return inputsOfRows(motion, (1 << rowCount[motion]) - 1);
        }

        int inputsOfRows(int motion, int places) {
            int inputs = 0;
            for (int place = 0; place < rowCount[motion]; place++) {
                if (has(places, place)) {
                    inputs |= rowAt(motion, place);
                }
            }
            return inputs;
        }

        boolean isPermitted(int motion, int closed) {
            for (int place = 0; place < rowCount[motion]; place++) {
                if ((rowAt(motion, place) & ~closed) == 0) {
                    return true;
                }
            }
            return false;
        }

        int permittedOnes(int closed) {
            int permitted = 0;
            for (int motion = 0; motion < MOTIONS; motion++) {
                if (isPermitted(motion, closed)) {
                    permitted++;
                }
            }
            return permitted;
        }

        int withFirstOut() {
            int found = 0;
            for (int motion = 0; motion < MOTIONS; motion++) {
                if (firstOut[motion] != NONE) {
                    found++;
                }
            }
            return found;
        }

        /** The open inputs of the row that has the fewest, of several the first one's. */
        int fewestOpen(int motion, int closed) {
            int fewest = rowAt(motion, 0) & ~closed;
            for (int place = 1; place < rowCount[motion]; place++) {
                int open = rowAt(motion, place) & ~closed;
                if (Integer.bitCount(open) < Integer.bitCount(fewest)) {
                    fewest = open;
                }
            }
            return fewest;
        }

        void begin(int motion) {
            running = with(running, motion, true);
            starts[motion]++;
            ticksSinceStart[motion] = 0;
        }

        int stopUnpermitted(int closedAhead, int closed, int tick) {
            int stopped = 0;
            for (int motion = 0; motion < MOTIONS; motion++) {
                if (has(running, motion) && !isPermitted(motion, closed)) {
                    running = with(running, motion, false);
                    firstOut[motion] = leastOpened(inputsOf(motion) & ~closed, closedAhead);
                    tickOfStop[motion] = tick;
                    stopsByInput[motion]++;
                    stopped++;
                }
            }
            return stopped;
        }

        private static int leastOpened(int open, int closedAhead) {
            int opened = open & closedAhead;
            return least(opened != 0 ? opened : open);
        }

        void countTick() {
            for (int motion = 0; motion < MOTIONS; motion++) {
                if (has(running, motion)) {
                    ticksSinceStart[motion]++;
                    ticksInAll[motion]++;
                }
            }
        }
    }

    /** The text that is typed, and its rows; a row goes from its first sign to its ";". */
    private static final class Text {
        final char[] signs = new char[MOST_SIGNS];
        int length = 0;

        /** The place of the ";", or the length of the text if it is missing. */
        int endOfRow(int from) {
            for (int at = from; at < length; at++) {
                if (signs[at] == ';') {
                    return at;
                }
            }
            return length;
        }

        boolean isRow(int from, int end) {
            if (end >= length || end - from < 3 || !isMotion(signs[from] - '0')
                    || signs[from + 1] != ':') {
                return false;
            }
            int digits = 0;
            for (int at = from + 2; at < end; at++) {
                if (isDigit(signs[at]) && digits < 2) {
                    digits++;
                } else if (signs[at] == '.' && digits > 0) {
                    digits = 0;
                } else {
                    return false;
                }
            }
            return digits > 0;
        }

        private static boolean isDigit(char sign) {
            return sign >= '0' && sign <= '9';
        }

        int motionOfRow(int from) {
            return signs[from] - '0';
        }

        int highestInputOfRow(int from, int end) {
            int highest = 0;
            int number = 0;
            for (int at = from + 2; at < end; at++) {
                number = signs[at] == '.' ? 0 : number * 10 + signs[at] - '0';
                highest = Math.max(highest, number);
            }
            return highest;
        }

        int inputsOfRow(int from, int end) {
            int inputs = 0;
            int number = 0;
            for (int at = from + 2; at < end; at++) {
                if (signs[at] == '.') {
                    inputs = with(inputs, number, true);
                    number = 0;
                } else {
                    number = number * 10 + signs[at] - '0';
                }
            }
            return with(inputs, number, true);
        }

        /** How many rows for the motion begin ahead of a place, where all have the right form. */
        int rowsOfMotion(int motion, int until) {
            int found = 0;
            for (int at = 1; at < until; at++) {
                if (signs[at] == ':' && motionOfRow(at - 1) == motion) {
                    found++;
                }
            }
            return found;
        }
    }
}
