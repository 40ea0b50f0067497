import java.util.ArrayList;
import java.util.List;
import java.util.Random;

/**
 * Runs of calls, the same ones each time, on the program and on Model; each answer is compared.
 * Half of the runs are short, and every question that the document has is put behind them; no
 * run has more than the 512 calls that are promised.
 */
public final class ModelTest {
    private static final int RUNS = 3000;
    /** One turn makes fewer than 20 calls, all questions together are up to 415. */
    private static final int CALLS = 512 - 20;
    private static final int CALLS_AHEAD_OF_QUESTIONS = CALLS - 415;
    private static final int[] WILD =
            {Integer.MIN_VALUE, -65536, -3, -2, -1, 17, 31, 32, 33, 501, 5001, 65536, Integer.MAX_VALUE};

    private final Random random;
    private final InterlockBoard board = new InterlockBoard();
    private final Model model = new Model();
    private final List<String> calls = new ArrayList<>();
    private final int longestRun;
    private boolean same = true;

    private ModelTest(long seed) {
        random = new Random(seed);
        int[] longest = {2, 8, 30, 500};
        longestRun = longest[random.nextInt(longest.length)];
    }

    public static void main(String[] arguments) {
        for (int run = 0; run < RUNS; run++) {
            ModelTest it = new ModelTest(run);
            it.compare();
            if (!it.same) {
                break;
            }
        }
        Checks.end("ModelTest");
    }

    private void compare() {
        for (int added = 2 + random.nextInt(chance(3) ? 15 : 6); added > 0; added--) {
            add();
        }
        for (int motion = 0; motion < 6; motion++) {
            row(motion);
        }
        boolean asksAll = chance(2);
        int last = asksAll ? CALLS_AHEAD_OF_QUESTIONS : CALLS;
        while (calls.size() < last && same) {
            call();
        }
        if (asksAll) {
            askAll();
        }
        if (calls.size() > 512) {
            Checks.fault("a run of " + calls.size() + " calls");
        }
    }

    private void same(String call, int answer, int due) {
        calls.add(call + " = " + due);
        Checks.due(answer, due);
        if (answer != due && same) {
            same = false;
            int from = Math.max(0, calls.size() - 25);
            Checks.fault("of " + calls.size() + " calls the last ones: "
                    + calls.subList(from, calls.size()) + " but answered " + answer);
        }
    }

    private boolean chance(int of) {
        return random.nextInt(of) == 0;
    }

    private int number(int least, int most) {
        return chance(40) ? WILD[random.nextInt(WILD.length)]
                : least + random.nextInt(most - least + 1);
    }

    private int anInput() {
        int size = Math.max(1, model.count(0));
        return chance(30) ? number(-1, 17) : random.nextInt(size);
    }

    private int aSensor() {
        int input = anInput();
        for (int tried = 0; tried < 5 && model.inputInfo(input, 0) != 0; tried++) {
            input = anInput();
        }
        return input;
    }

    private void add() {
        if (chance(3)) {
            int key = number(0, 3);
            int guard = chance(2) ? -1 : anInput();
            same("lock(" + key + ", " + guard + ")", board.lock(key, guard), model.lock(key, guard));
        } else {
            int interval = chance(2) ? 0 : chance(20) ? number(0, 5001) : number(1, 40);
            same("sensor(" + interval + ")", board.sensor(interval), model.sensor(interval));
        }
    }

    private void row(int motion) {
        int size = Math.max(1, model.count(0));
        int inputs = 0;
        for (int some = chance(8) ? 13 : 1 + random.nextInt(3); some > 0; some--) {
            inputs |= 1 << random.nextInt(chance(60) ? 32 : size);
        }
        if (chance(60)) {
            inputs = 0;
        }
        same("row(" + motion + ", " + inputs + ")", board.row(motion, inputs), model.row(motion, inputs));
    }

    private void call() {
        int motion = number(0, 5);
        switch (random.nextInt(16)) {
            case 0:
                if (chance(6)) {
                    add();
                }
                break;
            case 1: case 2: case 3:
                sensors();
                break;
            case 4:
                keys();
                break;
            case 5:
                bridges();
                break;
            case 6:
                rows(motion);
                break;
            case 7: case 8:
                same("start(" + motion + ")", board.start(motion), model.start(motion));
                break;
            case 9:
                stopOrReset(motion);
                break;
            case 10: case 11:
                int ticks = chance(30) ? number(0, 501) : number(1, longestRun);
                same("run(" + ticks + ")", board.run(ticks), model.run(ticks));
                break;
            case 12:
                states();
                break;
            case 13:
                texts();
                break;
            default:
                ask();
        }
    }

    private void sensors() {
        int sensor = chance(20) ? anInput() : aSensor();
        if (chance(4)) {
            same("test(" + sensor + ")", board.test(sensor), model.test(sensor));
        } else if (chance(12)) {
            int is = number(0, 1);
            same("essential(" + sensor + ", " + is + ")",
                    board.essential(sensor, is), model.essential(sensor, is));
        } else {
            boolean goesOnWithTest = model.inputInfo(sensor, 9) > 0;
            int closed = goesOnWithTest ? 1 - model.inputInfo(sensor, 1)
                    : chance(3) ? number(0, 1) : 1;
            same("input(" + sensor + ", " + closed + ")",
                    board.input(sensor, closed), model.input(sensor, closed));
        }
    }

    private void keys() {
        int key = number(0, 3);
        if (chance(3)) {
            same("keyOut(" + key + ")", board.keyOut(key), model.keyOut(key));
            return;
        }
        int input = anInput();
        for (int tried = 0; tried < 8 && model.inputInfo(input, 10) != key; tried++) {
            input = anInput();
        }
        same("keyIn(" + key + ", " + input + ")", board.keyIn(key, input), model.keyIn(key, input));
    }

    private void bridges() {
        int input = anInput();
        if (chance(3)) {
            same("unbridge(" + input + ")", board.unbridge(input), model.unbridge(input));
        } else {
            int ticks = number(1, chance(8) ? 501 : 12);
            same("bridge(" + input + ", " + ticks + ")",
                    board.bridge(input, ticks), model.bridge(input, ticks));
        }
    }

    private void rows(int motion) {
        switch (random.nextInt(5)) {
            case 0:
                if (chance(3)) {
                    same("dropRows(" + motion + ")", board.dropRows(motion), model.dropRows(motion));
                }
                break;
            case 1: case 2:
                int other = number(0, 5);
                int is = number(0, 1);
                same("exclude(" + motion + ", " + other + ", " + is + ")",
                        board.exclude(motion, other, is), model.exclude(motion, other, is));
                break;
            default:
                row(motion);
        }
    }

    private void stopOrReset(int motion) {
        if (chance(4)) {
            same("stop(" + motion + ")", board.stop(motion), model.stop(motion));
        } else {
            same("reset(" + motion + ")", board.reset(motion), model.reset(motion));
        }
    }

    private void states() {
        int place = number(0, 1);
        switch (random.nextInt(4)) {
            case 0:
                same("snapshot(" + place + ")", board.snapshot(place), model.snapshot(place));
                break;
            case 1:
                same("restore(" + place + ")", board.restore(place), model.restore(place));
                break;
            default:
                same("undo()", board.undo(), model.undo());
        }
    }

    private void type(int character) {
        same("type(" + character + ")", board.type(character), model.type(character));
    }

    private void texts() {
        int dice = random.nextInt(5);
        if (dice == 0) {
            same("clearText()", board.clearText(), model.clearText());
        } else if (dice == 1) {
            type(number(32, 126));
        } else {
            typeRow();
            if (chance(2)) {
                same("read()", board.read(), model.read());
            }
        }
        int what = number(0, 1);
        same("fault(" + what + ")", board.fault(what), model.fault(what));
        if (model.fault(0) >= 0 && chance(2)) {
            same("clearText()", board.clearText(), model.clearText());
        }
    }

    private void typeRow() {
        int size = Math.max(1, model.count(0));
        StringBuilder row = new StringBuilder();
        row.append(random.nextInt(chance(20) ? 10 : 6)).append(':');
        for (int left = random.nextInt(3); left >= 0; left--) {
            int input = random.nextInt(chance(20) ? 120 : size);
            row.append(input < 10 && chance(4) ? "0" : "").append(input).append(left > 0 ? "." : "");
        }
        row.append(';');
        if (chance(15)) {
            row.setCharAt(random.nextInt(row.length()), "0123456789:.; x".charAt(random.nextInt(15)));
        }
        for (int at = 0; at < row.length(); at++) {
            type(row.charAt(at));
        }
    }

    private void ask() {
        int input = anInput();
        int motion = number(0, 5);
        int key = number(0, 5);
        int place = number(0, 3);
        int what = number(0, 17);
        same("inputInfo(" + input + ", " + what + ")",
                board.inputInfo(input, what), model.inputInfo(input, what));
        same("key(" + key + ")", board.key(key), model.key(key));
        same("bridged(" + place + ")", board.bridged(place), model.bridged(place));
        same("why(" + motion + ")", board.why(motion), model.why(motion));
        same("motion(" + motion + ", " + what + ")",
                board.motion(motion, what), model.motion(motion, what));
        same("ways(" + motion + ")", board.ways(motion), model.ways(motion));
        same("waysAgain(" + motion + ")", board.waysAgain(motion), model.waysAgain(motion));
        same("needed(" + motion + ")", board.needed(motion), model.needed(motion));
        same("count(" + what + ")", board.count(what), model.count(what));
    }

    private void askAll() {
        for (int what = 0; what <= 16; what++) {
            same("count(" + what + ")", board.count(what), model.count(what));
            for (int input = 0; input < model.count(0); input++) {
                same("inputInfo(" + input + ", " + what + ")",
                        board.inputInfo(input, what), model.inputInfo(input, what));
            }
            for (int motion = 0; motion < 6; motion++) {
                same("motion(" + motion + ", " + what + ")",
                        board.motion(motion, what), model.motion(motion, what));
            }
        }
        for (int number = 0; number < 6; number++) {
            same("key(" + number + ")", board.key(number), model.key(number));
            same("why(" + number + ")", board.why(number), model.why(number));
            same("needed(" + number + ")", board.needed(number), model.needed(number));
            same("bridged(" + number + ")", board.bridged(number), model.bridged(number));
        }
    }
}
