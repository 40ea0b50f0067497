import java.io.IOException;
import java.nio.file.Files;
import java.nio.file.Path;
import java.util.Arrays;
import java.util.LinkedHashMap;
import java.util.Map;
import java.util.function.IntUnaryOperator;
import java.util.function.Supplier;
import java.util.function.ToIntFunction;

/**
 * What the classes share that test the document sentence by sentence. Each test quotes the words
 * that it tests; a quote that does not stand in its section of the document is a fault, and at
 * the end so is each word of the sections that no test has quoted.
 */
class Sentences extends Checks {
    static final int INVALID = -1;
    static final int NOT_POSSIBLE = -2;
    static final int LIMIT = -3;
    static final int NOT_FOUND = -4;

    /** Wrap-arounds that a bit mask or a narrower number would have. */
    private static final int[] WRAPS = {32, 64, 256, 65536, 1 << 30};

    private static final Map<String, String> WORDS = new LinkedHashMap<>();
    private static final Map<String, boolean[]> QUOTED = new LinkedHashMap<>();
    private static String section = "";

    static void readDocument(Path file) throws IOException {
        Map<String, StringBuilder> found = new LinkedHashMap<>();
        StringBuilder words = new StringBuilder();
        boolean isMeant = false;
        for (String line : Files.readAllLines(file)) {
            if (line.startsWith("#")) {
                String heading = line.replaceFirst("#+ ", "");
                isMeant = heading.startsWith("Promise ") || heading.equals("Terms")
                        || line.startsWith("### ");
                words = new StringBuilder();
                if (isMeant) {
                    found.put(heading, words);
                }
            } else if (isMeant) {
                words.append(line.replaceFirst("^- ", "")).append(' ');
            }
        }
        for (Map.Entry<String, StringBuilder> one : found.entrySet()) {
            WORDS.put(one.getKey(), one.getValue().toString());
            QUOTED.put(one.getKey(), new boolean[one.getValue().length()]);
        }
    }

    static void section(String heading) {
        section = heading;
        if (!WORDS.isEmpty() && !WORDS.containsKey(heading)) {
            fault("the document has no section " + heading);
        }
    }

    /** Runs the test of these words of the present section; what it throws is a wrong answer. */
    static void says(String words, Runnable test) {
        quote(words);
        int wrongAhead = wrongSoFar();
        try {
            test.run();
        } catch (RuntimeException thrown) {
            fault("a call has thrown " + thrown + " at " + thrown.getStackTrace()[0]);
        }
        if (wrongSoFar() > wrongAhead) {
            System.out.println("    not as the document says (" + section + "): " + words);
        }
    }

    /** Words that no run of calls can break. */
    static void tellsNoBoundary(String words) {
        quote(words);
    }

    private static void quote(String words) {
        String whole = WORDS.get(section);
        if (whole == null) {
            return;
        }
        int at = whole.indexOf(words);
        if (at < 0) {
            fault("the document does not say (" + section + "): " + words);
        } else {
            Arrays.fill(QUOTED.get(section), at, at + words.length(), true);
        }
    }

    static void dueAllQuoted() {
        for (Map.Entry<String, String> one : WORDS.entrySet()) {
            boolean[] quoted = QUOTED.get(one.getKey());
            StringBuilder left = new StringBuilder();
            for (int at = 0; at < quoted.length; at++) {
                left.append(quoted[at] ? ' ' : one.getValue().charAt(at));
            }
            if (left.chars().anyMatch(Character::isLetterOrDigit)) {
                fault("no test quotes (" + one.getKey() + "): "
                        + left.toString().replaceAll("\\s+", " "));
            }
        }
    }

    /** The call takes no argument below least or above most. */
    static void outOfRange(int least, int most, IntUnaryOperator call) {
        due(call.applyAsInt(least - 1), INVALID);
        due(call.applyAsInt(most + 1), INVALID);
        due(call.applyAsInt(Integer.MIN_VALUE), INVALID);
        due(call.applyAsInt(Integer.MIN_VALUE + least), INVALID);
        due(call.applyAsInt(Integer.MAX_VALUE), INVALID);
        for (int wrap : WRAPS) {
            if (least + wrap > most) {
                due(call.applyAsInt(least + wrap), INVALID);
            }
            due(call.applyAsInt(least - wrap), INVALID);
        }
    }

    /** The call is refused, and the board answers everything as one that was not asked this. */
    static void refused(Supplier<InterlockBoard> made, ToIntFunction<InterlockBoard> call, int due) {
        InterlockBoard asked = made.get();
        due(call.applyAsInt(asked), due);
        dueSame(allAnswers(asked), allAnswers(made.get()));
    }

    static void dueSame(int[] answers, int[] answersDue) {
        int different = Arrays.mismatch(answers, answersDue);
        if (different >= 0) {
            fault("of all answers that with the index " + different + " is another one");
        }
    }

    /** What the board answers to all questions about its state, but the history and the text. */
    static int[] stateAnswers(InterlockBoard b) {
        int[] answers = new int[400];
        int size = counts(b, answers, 0);
        for (int input = 0; input < b.count(0); input++) {
            for (int what = 0; what <= 11; what++) {
                answers[size++] = b.inputInfo(input, what);
            }
        }
        for (int number = 0; number < 6; number++) {
            answers[size++] = b.key(number);
            answers[size++] = b.why(number);
            answers[size++] = b.ways(number);
            answers[size++] = b.needed(number);
            for (int what = 0; what <= 12; what++) {
                answers[size++] = b.motion(number, what);
            }
        }
        for (int place = 0; place < 3; place++) {
            answers[size++] = b.bridged(place);
        }
        return Arrays.copyOf(answers, size);
    }

    /** Uses up the board: its history and its snapshots are looked at too. */
    static int[] allAnswers(InterlockBoard b) {
        int[] state = stateAnswers(b);
        int size = state.length;
        int[] answers = Arrays.copyOf(state, size + 200);
        for (int what = 14; what <= 16; what++) {
            answers[size++] = b.count(what);
        }
        answers[size++] = b.fault(0);
        answers[size++] = b.fault(1);
        for (int states = 0; states < 5; states++) {
            answers[size++] = b.undo();
            size = counts(b, answers, size);
        }
        for (int place = 0; place < 2; place++) {
            answers[size++] = b.restore(place);
            size = counts(b, answers, size);
        }
        return Arrays.copyOf(answers, size);
    }

    private static int counts(InterlockBoard b, int[] answers, int from) {
        int size = from;
        for (int what = 0; what <= 13; what++) {
            answers[size++] = b.count(what);
        }
        return size;
    }

    /** On a board without inputs: something of everything that a state can hold. */
    static void fill(InterlockBoard b) {
        b.sensor(7);
        b.lock(2, 0);
        b.lock(4, 1);
        b.sensor(0);
        b.sensor(30);
        b.input(0, 1);
        b.input(3, 1);
        b.input(4, 1);
        b.keyIn(2, 1);
        b.keyIn(4, 2);
        b.essential(4, 1);
        b.bridge(0, 40);
        b.row(0, 0b01000);
        b.row(0, 0b00011);
        b.row(1, 0b00010);
        b.row(5, 0b10000);
        b.row(5, 0b00100);
        b.exclude(1, 2, 1);
        b.start(0);
        b.start(1);
        b.start(5);
        b.run(3);
        b.test(0);
        b.input(0, 0);
        b.input(0, 1);
        b.test(3);
        b.test(4);
        b.input(4, 0);
        b.run(2);
        b.keyOut(2);
        b.keyIn(2, 1);
    }

    /** Whether a filled board goes on as it must, where no question shows what it holds. */
    static void dueFilledGoesOn(InterlockBoard b) {
        b.run(18);
        due(b.inputInfo(3, 9), 1);
        due(b.inputInfo(4, 9), 2);
        b.run(1);
        due(b.inputInfo(3, 9), 0);
        due(b.inputInfo(4, 9), 0);
        due(b.stop(0), 24);
    }

    /** On a board without inputs: as many as fill adds, and everything otherwise than there. */
    static void fillOtherwise(InterlockBoard b) {
        b.lock(3, -1);
        b.sensor(9);
        b.sensor(11);
        b.lock(1, 2);
        b.sensor(0);
        b.input(1, 1);
        b.input(2, 1);
        b.input(4, 1);
        b.keyIn(1, 3);
        b.essential(0, 1);
        b.row(0, 0b10000);
        b.row(0, 0b00100);
        b.row(1, 0b00100);
        b.row(5, 0b00010);
        b.exclude(0, 3, 1);
        b.start(5);
        b.run(50);
        b.test(4);
        b.input(4, 0);
        b.input(4, 1);
        b.test(4);
        b.test(2);
        b.input(2, 0);
        b.input(2, 1);
        b.bridge(4, 9);
        b.start(0);
    }

    /** So many sensors that need no tests, all closed. */
    static InterlockBoard closedSensors(int sensors) {
        InterlockBoard board = withSensors(sensors);
        for (int sensor = 0; sensor < sensors; sensor++) {
            board.input(sensor, 1);
        }
        return board;
    }

    /** One closed sensor, and motions that need it and run. */
    static InterlockBoard running(int... motions) {
        InterlockBoard board = closedSensors(1);
        for (int motion : motions) {
            board.row(motion, 1);
            board.start(motion);
        }
        return board;
    }

    /** A sensor without tests and a lock for each key, all open. */
    static InterlockBoard withLocks() {
        InterlockBoard board = withSensors(1);
        for (int key = 0; key < 6; key++) {
            board.lock(key, -1);
        }
        return board;
    }

    static InterlockBoard typed(String text) {
        InterlockBoard board = withSensors(3);
        type(board, text);
        return board;
    }

    static void dueFault(InterlockBoard b, int position, int reason) {
        due(b.fault(0), position);
        due(b.fault(1), reason);
    }

    static void retype(InterlockBoard b, String text) {
        b.clearText();
        type(b, text);
    }
}
