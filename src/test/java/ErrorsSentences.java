import java.util.function.ToIntFunction;

/** The part "Changes and errors" of the terms. */
final class ErrorsSentences extends Sentences {
    static void test() {
        section("Changes and errors");
        changes();
        history();
        errors();
        refusedInputs();
        refusedMotions();
        refusedOthers();
        refusedAtLimits();
        noSuchInput();
        constants();
        heads();
    }

    /** A board with something of everything, and two states left in its history. */
    private static InterlockBoard busy() {
        InterlockBoard b = closedSensors(2);
        b.sensor(3);
        b.input(2, 1);
        b.lock(0, 0);
        b.lock(1, 2);
        b.keyIn(0, 3);
        b.keyIn(1, 4);
        b.sensor(0);
        b.essential(5, 1);
        b.row(0, 0b000001);
        b.row(1, 0b000010);
        b.row(2, 0b000001);
        b.row(2, 0b000010);
        b.row(2, 0b000001);
        b.row(2, 0b000010);
        b.row(3, 0b100000);
        b.row(4, 0b000001);
        b.row(5, 0b000001);
        b.exclude(0, 4, 1);
        b.start(0);
        b.start(1);
        b.start(5);
        b.input(1, 0);
        b.input(1, 1);
        b.test(1);
        for (int bridge = 6; bridge < 9; bridge++) {
            b.sensor(0);
            b.bridge(bridge, bridge * 5);
        }
        b.run(4);
        b.snapshot(1);
        b.undo();
        b.undo();
        b.restore(1);
        type(b, "0:0;");
        return b;
    }

    private static void notPossible(ToIntFunction<InterlockBoard> call) {
        refused(ErrorsSentences::busy, call, NOT_POSSIBLE);
    }

    private static void invalid(ToIntFunction<InterlockBoard> call) {
        refused(ErrorsSentences::busy, call, INVALID);
    }

    private static void limit(ToIntFunction<InterlockBoard> call) {
        refused(ErrorsSentences::busy, call, LIMIT);
    }

    /** The call records one state, and undo takes back what it did. */
    private static void isChange(ToIntFunction<InterlockBoard> call, int due) {
        InterlockBoard b = busy();
        int states = b.count(14);
        due(call.applyAsInt(b), due);
        due(b.count(14), states + 1);
        due(b.undo(), states);
        dueSame(allAnswers(b), allAnswers(busy()));
    }

    private static void isNoChange(ToIntFunction<InterlockBoard> call, int due) {
        InterlockBoard b = busy();
        int states = b.count(14);
        due(call.applyAsInt(b), due);
        due(b.count(14), states);
    }

    private static void changes() {
        says("The changes are the calls of sensor, lock, essential, input, keyIn, keyOut, bridge, "
                + "unbridge, row, dropRows, exclude, start, stop, reset, test, run, restore and read "
                + "that return no error", () -> {
            isChange(b -> b.sensor(5000), 9);
            isChange(b -> b.lock(5, 8), 9);
            isChange(b -> b.essential(0, 1), 0);
            isChange(b -> b.input(0, 0), 2);
            isChange(b -> b.keyOut(0), 0);
            isChange(b -> b.unbridge(6), 0);
            isChange(b -> b.row(3, 0b111111111), 2);
            isChange(b -> b.dropRows(2), 4);
            isChange(b -> b.exclude(5, 2, 1), 0);
            isChange(b -> b.start(2), 3);
            isChange(b -> b.stop(5), 4);
            isChange(b -> b.reset(1), 1);
            isChange(b -> b.test(0), 24);
            isChange(b -> b.run(500), 0);
            isChange(b -> b.restore(1), 4);
            InterlockBoard b = withLocks();
            due(b.count(14), 4);
            b.undo();
            b.keyIn(0, 1);
            due(b.count(14), 4);
            b.undo();
            b.bridge(0, 1);
            due(b.count(14), 4);
            b.undo();
            type(b, "0:0;");
            b.read();
            due(b.count(14), 4);
            isNoChange(other -> other.snapshot(0), 2);
            isNoChange(other -> other.type(' '), 5);
            isNoChange(other -> other.clearText(), 4);
            isNoChange(other -> other.why(0), 1);
            isNoChange(other -> other.fault(1), 3);
        });
        says(" (also if nothing becomes different).", () -> {
            isChange(b -> b.essential(0, 0), 0);
            isChange(b -> b.essential(5, 1), 1);
            isChange(b -> b.input(0, 1), 0);
            isChange(b -> b.input(5, 0), 0);
            isChange(b -> b.exclude(0, 4, 1), 1);
            isChange(b -> b.exclude(0, 1, 0), 0);
            InterlockBoard b = new InterlockBoard();
            due(b.read(), 0);
            due(b.count(14), 1);
            due(b.dropRows(0), 0);
            due(b.count(14), 2);
            b.snapshot(0);
            due(b.restore(0), 0);
            due(b.count(14), 3);
        });
    }

    private static void history() {
        says("A history of at most 4 states is kept:", () -> {
            InterlockBoard b = new InterlockBoard();
            due(b.count(14), 0);
            for (int change = 1; change <= 12; change++) {
                b.run(1);
                due(b.count(14), Math.min(change, 4));
            }
        });
        says(" each change records everything before it", () -> {
            InterlockBoard b = new InterlockBoard();
            b.snapshot(1);
            fillOtherwise(b);
            b.snapshot(0);
            b.restore(1);
            fill(b);
            int[] answers = stateAnswers(b);
            b.restore(0);
            b.stop(0);
            b.run(9);
            b.undo();
            b.undo();
            b.undo();
            dueSame(stateAnswers(b), answers);
            dueFilledGoesOn(b);
        });
        says(" but the text and the snapshots,", () -> {
            InterlockBoard b = new InterlockBoard();
            type(b, "0:0");
            b.snapshot(0);
            b.run(1);
            b.type(';');
            b.snapshot(1);
            b.run(1);
            b.snapshot(0);
            due(b.undo(), 1);
            due(b.undo(), 0);
            due(b.count(15), 4);
            due(b.count(16), 2);
            due(b.restore(0), 2);
            due(b.restore(1), 1);
        });
        says(" and if there are 5 states then, the oldest one is dropped.", () -> {
            InterlockBoard b = new InterlockBoard();
            for (int change = 0; change < 5; change++) {
                b.run(1);
            }
            for (int left = 3; left >= 0; left--) {
                due(b.undo(), left);
                due(b.count(8), left + 1);
            }
            due(b.undo(), NOT_POSSIBLE);
            due(b.count(8), 1);
        });
    }

    private static void errors() {
        says("If several errors apply to a call, INVALID_ARGUMENT is returned rather than NOT_POSSIBLE,", () -> {
            invalid(b -> b.input(3, 2));
            invalid(b -> b.keyIn(6, 0));
            invalid(b -> b.keyIn(0, 9));
            invalid(b -> b.bridge(5, 501));
            invalid(b -> b.bridge(6, 0));
            invalid(b -> b.row(0, 0));
            invalid(b -> b.row(0, 0b1000000001));
            invalid(b -> b.exclude(0, 0, 1));
            invalid(b -> b.exclude(0, 5, 2));
            InterlockBoard empty = new InterlockBoard();
            due(empty.restore(2), INVALID);
            due(empty.keyOut(6), INVALID);
            due(empty.unbridge(0), INVALID);
            due(empty.test(0), INVALID);
            due(empty.start(6), INVALID);
            due(empty.stop(-1), INVALID);
            due(empty.reset(6), INVALID);
        });
        says(" NOT_POSSIBLE rather than LIMIT_REACHED,", () -> {
            notPossible(b -> b.bridge(5, 1));
            notPossible(b -> b.bridge(6, 500));
            InterlockBoard b = running(0);
            b.stop(0);
            b.row(0, 1);
            b.row(0, 1);
            b.row(0, 1);
            b.start(0);
            due(b.row(0, 1), NOT_POSSIBLE);
            b.stop(0);
            due(b.row(0, 1), LIMIT);
        });
        says(" and LIMIT_REACHED rather than NOT_FOUND.", () -> {
            // no call has both; but INVALID_ARGUMENT goes ahead of each of them
            invalid(b -> b.bridge(0, 501));
            invalid(b -> b.row(2, 0));
            InterlockBoard full = withSensors(16);
            due(full.sensor(5001), INVALID);
            due(full.lock(6, -1), INVALID);
            due(full.lock(0, 16), INVALID);
            due(full.bridged(-1), INVALID);
            due(full.motion(6, 3), INVALID);
            due(full.needed(6), INVALID);
            due(full.key(6), INVALID);
            due(full.fault(2), INVALID);
            due(full.inputInfo(16, 10), INVALID);
            full.row(0, 0xffff);
            due(full.ways(6), INVALID);
            due(full.waysAgain(-1), INVALID);
        });
    }

    private static void refusedInputs() {
        says("A call that returns an error changes nothing.", () -> {
            invalid(b -> b.sensor(-1));
            invalid(b -> b.sensor(5001));
            invalid(b -> b.lock(6, -1));
            invalid(b -> b.lock(0, 9));
            invalid(b -> b.essential(9, 1));
            invalid(b -> b.essential(5, 2));
            notPossible(b -> b.essential(6, 1));
            invalid(b -> b.input(9, 0));
            invalid(b -> b.input(0, 2));
            notPossible(b -> b.input(3, 0));
            notPossible(b -> b.input(4, 1));
            invalid(b -> b.inputInfo(0, 12));
            invalid(b -> b.keyIn(-1, 3));
            invalid(b -> b.keyIn(0, -1));
            notPossible(b -> b.keyIn(0, 3));
            notPossible(b -> b.keyIn(0, 4));
            notPossible(b -> b.keyIn(2, 3));
            notPossible(b -> b.keyIn(2, 0));
            invalid(b -> b.keyOut(6));
            notPossible(b -> b.keyOut(2));
            notPossible(b -> b.keyOut(1));
            invalid(b -> b.bridge(9, 1));
            invalid(b -> b.bridge(0, 0));
            notPossible(b -> b.bridge(5, 1));
            notPossible(b -> b.bridge(7, 1));
            limit(b -> b.bridge(0, 1));
            invalid(b -> b.unbridge(9));
            notPossible(b -> b.unbridge(0));
        });
    }

    private static void refusedMotions() {
        says("A call that returns an error changes nothing.", () -> {
            invalid(b -> b.row(6, 1));
            invalid(b -> b.row(3, 0));
            invalid(b -> b.row(3, 512));
            notPossible(b -> b.row(0, 1));
            limit(b -> b.row(2, 1));
            invalid(b -> b.dropRows(6));
            notPossible(b -> b.dropRows(0));
            invalid(b -> b.exclude(0, 0, 1));
            invalid(b -> b.exclude(0, 6, 1));
            invalid(b -> b.exclude(0, 5, -1));
            notPossible(b -> b.exclude(0, 5, 1));
            invalid(b -> b.start(6));
            notPossible(b -> b.start(0));
            notPossible(b -> b.start(1));
            notPossible(b -> b.start(3));
            notPossible(b -> b.start(4));
            invalid(b -> b.stop(6));
            notPossible(b -> b.stop(1));
            invalid(b -> b.reset(6));
            notPossible(b -> b.reset(0));
        });
    }

    private static void refusedOthers() {
        says("A call that returns an error changes nothing.", () -> {
            invalid(b -> b.test(9));
            notPossible(b -> b.test(3));
            notPossible(b -> b.test(5));
            notPossible(b -> b.test(1));
            invalid(b -> b.run(0));
            invalid(b -> b.run(501));
            invalid(b -> b.snapshot(2));
            invalid(b -> b.snapshot(-1));
            invalid(b -> b.restore(2));
            notPossible(b -> b.restore(0));
            invalid(b -> b.type(31));
            invalid(b -> b.type(127));
            invalid(b -> b.fault(2));
            notPossible(b -> b.read());
        });
    }

    private static InterlockBoard late() {
        InterlockBoard b = running(0);
        runTicks(b, 99999);
        return b;
    }

    private static void refusedAtLimits() {
        says("A call that returns an error changes nothing.", () -> {
            refused(() -> withSensors(16), b -> b.sensor(0), LIMIT);
            refused(() -> withSensors(16), b -> b.lock(0, -1), LIMIT);
            refused(() -> typed("0:0;".repeat(20)), b -> b.type('0'), LIMIT);
            refused(() -> typed("0:0;1:1;2:3;"), b -> b.read(), NOT_POSSIBLE);
            refused(() -> typed("0:0;1:1;0:1"), b -> b.read(), NOT_POSSIBLE);
            refused(() -> typed("0:0;".repeat(5)), b -> b.read(), NOT_POSSIBLE);
            refused(InterlockBoard::new, b -> b.undo(), NOT_POSSIBLE);
            refused(ErrorsSentences::late, b -> b.run(2), LIMIT);
            refused(ErrorsSentences::late, b -> b.run(500), LIMIT);
        });
    }

    private static void noSuchInput() {
        says("If there is no input with a certain number, this is INVALID_ARGUMENT.", () -> {
            for (int size = 0; size <= 16; size += size == 1 ? 14 : 1) {
                InterlockBoard b = closedSensors(size);
                outOfRange(0, size - 1, input -> b.essential(input, 0));
                outOfRange(0, size - 1, input -> b.input(input, 0));
                outOfRange(0, size - 1, input -> b.inputInfo(input, 1));
                outOfRange(0, size - 1, input -> b.keyIn(0, input));
                outOfRange(0, size - 1, input -> b.bridge(input, 1));
                outOfRange(0, size - 1, input -> b.unbridge(input));
                outOfRange(0, size - 1, input -> b.test(input));
                outOfRange(-1, size - 1, guard -> b.lock(0, guard));
                for (int bit = size; bit < 32; bit++) {
                    due(b.row(0, 1 << bit), INVALID);
                }
                due(b.count(1), size);
                due(b.count(3), 0);
            }
        });
    }

    private static void constants() {
        says("The constants: `INVALID_ARGUMENT = -1`: An argument is out of its range, "
                + "or there is no such input.", () -> due(InterlockBoard.INVALID_ARGUMENT, -1));
        says("`NOT_POSSIBLE = -2`: The call is not possible in the present state.",
                () -> due(InterlockBoard.NOT_POSSIBLE, -2));
        says("`LIMIT_REACHED = -3`: A fixed limit has been reached.",
                () -> due(InterlockBoard.LIMIT_REACHED, -3));
        says("`NOT_FOUND = -4`: There is no such value.", () -> due(InterlockBoard.NOT_FOUND, -4));
    }

    private static void heads() {
        tellsNoBoundary("Ahead of the calls `sensor`, `lock`, `essential`, `input`, `inputInfo` "
                + "the interface says: ---- inputs.");
        tellsNoBoundary("Ahead of the calls `keyIn`, `keyOut`, `key`, `bridge`, `unbridge`, `bridged` "
                + "the interface says: ---- keys and bridges.");
        tellsNoBoundary("Ahead of the calls `row`, `dropRows`, `exclude`, `start`, `why`, `stop`, "
                + "`reset`, `motion`, `ways`, `waysAgain`, `needed` the interface says: ---- motions.");
        tellsNoBoundary("Ahead of the calls `test`, `run`, `count`, `snapshot`, `restore`, `undo` "
                + "the interface says: ---- tests and time.");
        tellsNoBoundary("Ahead of the calls `type`, `clearText`, `fault`, `read` "
                + "the interface says: ---- texts.");
    }
}
