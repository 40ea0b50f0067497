/** Promises 24 to 29: test, run, count, snapshot, restore, undo; and the history of changes. */
public final class TestsAndTimeTest {
    private static final int INVALID = InterlockBoard.INVALID_ARGUMENT;
    private static final int NOT_POSSIBLE = InterlockBoard.NOT_POSSIBLE;
    private static final int LIMIT = InterlockBoard.LIMIT_REACHED;
    private static final int NOT_FOUND = InterlockBoard.NOT_FOUND;

    public static void main(String[] arguments) {
        test();
        testInTime();
        testTooLate();
        testOfOverdue();
        runOrder();
        runStopsAtOneTick();
        firstOutInTick();
        runLimits();
        count();
        snapshot();
        restore();
        restoreStopsNone();
        restoreOfInputsMadeAnew();
        restoreOfWhatWasOverwritten();
        undo();
        historyOfFour();
        changes();
        noChanges();
        undoOfEach();
        Checks.end("TestsAndTimeTest");
    }

    private static void test() {
        InterlockBoard b = new InterlockBoard();
        b.sensor(5);
        b.lock(0, -1);
        b.keyIn(0, 1);
        Checks.due(b.test(-1), INVALID);
        Checks.due(b.test(2), INVALID);
        Checks.due(b.test(0), NOT_POSSIBLE);
        Checks.due(b.test(1), NOT_POSSIBLE);
        b.bridge(0, 3);
        Checks.due(b.test(0), NOT_POSSIBLE);
        b.input(0, 1);
        b.run(8);
        Checks.due(b.inputInfo(0, 2), 0);
        Checks.due(b.test(0), 28);
        Checks.due(b.test(0), NOT_POSSIBLE);
        b.input(0, 0);
        Checks.due(b.test(0), NOT_POSSIBLE);
        b.input(0, 1);
        Checks.due(b.count(13), 1);
        Checks.due(b.test(0), 28);
    }

    private static void testInTime() {
        InterlockBoard b = new InterlockBoard();
        b.sensor(0);
        b.run(2);
        b.input(0, 1);
        Checks.due(b.test(0), 22);
        b.run(20);
        Checks.due(b.inputInfo(0, 9), 1);
        b.input(0, 0);
        Checks.due(b.inputInfo(0, 9), 2);
        b.input(0, 1);
        Checks.due(b.inputInfo(0, 9), 0);
        Checks.due(b.inputInfo(0, 6), 22);
        Checks.due(b.count(13), 1);
        b.input(0, 0);
        b.run(1);
        b.input(0, 1);
        Checks.due(b.inputInfo(0, 6), 22);
        Checks.due(b.count(13), 1);
    }

    private static void testTooLate() {
        InterlockBoard b = new InterlockBoard();
        b.sensor(0);
        b.sensor(0);
        b.input(0, 1);
        b.input(1, 1);
        b.test(0);
        b.test(1);
        b.input(0, 0);
        b.run(20);
        Checks.due(b.inputInfo(0, 9), 2);
        Checks.due(b.inputInfo(1, 9), 1);
        b.run(1);
        Checks.due(b.inputInfo(0, 9), 0);
        Checks.due(b.inputInfo(1, 9), 0);
        b.input(0, 1);
        Checks.due(b.inputInfo(0, 6), 0);
        Checks.due(b.count(13), 0);
        Checks.due(b.test(1), 41);
    }

    /** A test that is done makes an overdue input count as closed again. */
    private static void testOfOverdue() {
        InterlockBoard b = new InterlockBoard();
        b.sensor(2);
        b.input(0, 1);
        b.row(0, 1);
        b.start(0);
        Checks.due(b.run(9), 1);
        Checks.due(b.motion(0, 4), 3);
        Checks.due(b.motion(0, 5), 2);
        b.reset(0);
        b.test(0);
        b.input(0, 0);
        b.run(1);
        b.input(0, 1);
        Checks.due(b.inputInfo(0, 6), 10);
        Checks.due(b.inputInfo(0, 4), 0);
        Checks.due(b.start(0), 1);
        Checks.due(b.run(2), 0);
        Checks.due(b.run(1), 1);
    }

    /** The bridged tick is counted, the bridge ends, the motion stops and does not run that tick. */
    private static void runOrder() {
        InterlockBoard b = Checks.withSensors(1);
        b.row(0, 1);
        b.bridge(0, 3);
        b.start(0);
        Checks.due(b.run(3), 1);
        Checks.due(b.inputInfo(0, 8), 3);
        Checks.due(b.motion(0, 5), 2);
        Checks.due(b.motion(0, 4), 3);
        Checks.due(b.count(12), 3);
    }

    private static void runStopsAtOneTick() {
        InterlockBoard b = new InterlockBoard();
        b.sensor(4);
        b.sensor(6);
        b.input(0, 1);
        b.input(1, 1);
        b.row(2, 0b01);
        b.row(1, 0b10);
        b.row(0, 0b01);
        b.row(0, 0b10);
        b.start(0);
        b.start(1);
        b.start(2);
        Checks.due(b.run(20), 3);
        Checks.due(b.motion(2, 4), 5);
        Checks.due(b.motion(1, 4), 7);
        Checks.due(b.motion(0, 4), 7);
        Checks.due(b.motion(0, 3), 1);
        Checks.due(b.motion(0, 5), 6);
        Checks.due(b.count(9), 6 + 6 + 4);
    }

    /** Of two inputs that open in one tick the least number; of an earlier tick none. */
    private static void firstOutInTick() {
        InterlockBoard b = new InterlockBoard();
        b.sensor(2);
        b.sensor(5);
        b.sensor(0);
        b.sensor(5);
        for (int sensor = 0; sensor < 4; sensor++) {
            b.input(sensor, 1);
        }
        b.row(0, 0b0001);
        b.row(0, 0b1010);
        b.row(1, 0b1000);
        b.row(1, 0b0100);
        b.start(0);
        b.start(1);
        Checks.due(b.run(10), 1);
        Checks.due(b.motion(0, 3), 1);
        Checks.due(b.input(2, 0), 1);
        Checks.due(b.motion(1, 3), 2);
    }

    private static void runLimits() {
        InterlockBoard b = new InterlockBoard();
        Checks.due(b.run(0), INVALID);
        Checks.due(b.run(-1), INVALID);
        Checks.due(b.run(501), INVALID);
        Checks.due(b.run(Integer.MAX_VALUE), INVALID);
        Checks.due(b.run(500), 0);
        Checks.runTicks(b, 99000);
        Checks.due(b.count(8), 99500);
        Checks.due(b.run(499), 0);
        Checks.due(b.run(2), LIMIT);
        Checks.due(b.run(501), INVALID);
        Checks.due(b.run(0), INVALID);
        Checks.due(b.count(8), 99999);
        Checks.due(b.run(1), 0);
        Checks.due(b.run(1), LIMIT);
        Checks.due(b.count(8), 100000);
        Checks.due(b.sensor(0), 0);
        b.input(0, 1);
        Checks.due(b.test(0), 100020);
    }

    private static void count() {
        InterlockBoard b = new InterlockBoard();
        b.sensor(3);
        b.sensor(3);
        b.sensor(0);
        b.lock(0, -1);
        b.lock(1, -1);
        b.keyIn(0, 3);
        b.keyIn(1, 4);
        b.keyOut(1);
        b.input(0, 1);
        b.input(2, 1);
        b.bridge(1, 10);
        b.bridge(4, 2);
        b.row(0, 0b00001);
        b.row(1, 0b00100);
        b.row(2, 0b00110);
        b.start(0);
        b.start(1);
        b.start(2);
        b.test(2);
        b.input(2, 0);
        b.input(2, 1);
        b.reset(1);
        b.start(1);
        b.run(5);
        b.snapshot(1);
        Checks.type(b, "0:0;1");
        int[] due = {5, 3, 2, 1, 1, 1, 2, 2, 5, 5 + 3, 4, 3, 7, 1, 4, 5, 1};
        for (int what = 0; what < due.length; what++) {
            Checks.due(b.count(what), due[what]);
        }
        b.bridge(0, 1);
        Checks.due(b.count(6), 3);
        Checks.due(b.count(-1), INVALID);
        Checks.due(b.count(17), INVALID);
        Checks.due(b.count(Integer.MIN_VALUE), INVALID);
    }

    private static void snapshot() {
        InterlockBoard b = new InterlockBoard();
        Checks.due(b.snapshot(-1), INVALID);
        Checks.due(b.snapshot(2), INVALID);
        Checks.due(b.count(16), 0);
        Checks.due(b.snapshot(1), 1);
        Checks.due(b.snapshot(1), 1);
        Checks.due(b.snapshot(0), 2);
        Checks.due(b.snapshot(0), 2);
        Checks.due(b.count(16), 2);
        Checks.due(b.count(14), 0);
        b.run(4);
        Checks.due(b.snapshot(1), 2);
        b.run(1);
        Checks.due(b.restore(0), 0);
        Checks.due(b.restore(1), 4);
    }

    /** The history, the text and the other snapshot stay what they are. */
    private static void restore() {
        InterlockBoard b = new InterlockBoard();
        Checks.due(b.restore(-1), INVALID);
        Checks.due(b.restore(2), INVALID);
        Checks.due(b.restore(0), NOT_POSSIBLE);
        b.sensor(9);
        b.lock(2, -1);
        b.keyIn(2, 1);
        b.row(3, 3);
        b.run(7);
        b.snapshot(1);
        Checks.due(b.restore(0), NOT_POSSIBLE);
        b.keyOut(2);
        b.dropRows(3);
        b.sensor(4);
        b.essential(0, 1);
        b.exclude(1, 2, 1);
        b.run(30);
        Checks.type(b, "ab");
        Checks.due(b.restore(1), 7);
        Checks.due(b.count(15), 2);
        Checks.due(b.count(16), 1);
        Checks.due(b.count(14), 4);
        Checks.due(b.count(0), 2);
        Checks.due(b.key(2), 1);
        Checks.due(b.motion(3, 8), 3);
        Checks.due(b.motion(1, 12), 0);
        Checks.due(b.inputInfo(0, 3), 0);
        b.run(5);
        Checks.due(b.restore(1), 7);
        Checks.due(b.undo(), 3);
        Checks.due(b.count(8), 12);
        Checks.due(b.undo(), 2);
        Checks.due(b.undo(), 1);
        Checks.due(b.count(8), 37);
        Checks.due(b.count(0), 3);
    }

    private static void restoreStopsNone() {
        InterlockBoard b = Checks.withSensors(1);
        b.input(0, 1);
        b.row(0, 1);
        b.start(0);
        b.run(3);
        b.snapshot(0);
        Checks.due(b.input(0, 0), 1);
        Checks.due(b.restore(0), 3);
        Checks.due(b.motion(0, 2), 1);
        Checks.due(b.motion(0, 7), 0);
        b.run(2);
        Checks.due(b.stop(0), 5);
        Checks.due(b.undo(), 3);
        Checks.due(b.motion(0, 2), 1);
        b.run(1);
        Checks.due(b.stop(0), 6);
    }

    /** What was made in place of an input that was undone leaves nothing behind. */
    private static void restoreOfInputsMadeAnew() {
        InterlockBoard b = new InterlockBoard();
        b.sensor(0);
        b.sensor(5);
        b.snapshot(0);
        b.undo();
        b.lock(4, -1);
        Checks.due(b.restore(0), 0);
        Checks.due(b.inputInfo(1, 0), 0);
        Checks.due(b.inputInfo(1, 5), 5);
        Checks.due(b.input(1, 1), 0);
        b.lock(1, 0);
        b.snapshot(1);
        b.undo();
        b.lock(3, -1);
        Checks.due(b.restore(1), 0);
        Checks.due(b.inputInfo(2, 10), 1);
        Checks.due(b.inputInfo(2, 11), 0);
        b.undo();
        Checks.due(b.inputInfo(2, 10), 3);
        Checks.due(b.inputInfo(2, 11), NOT_FOUND);
    }

    private static void restoreOfWhatWasOverwritten() {
        InterlockBoard b = Checks.withSensors(2);
        b.input(0, 1);
        b.input(1, 1);
        b.test(0);
        b.row(0, 1);
        b.start(0);
        b.run(3);
        b.snapshot(0);
        b.stop(0);
        b.dropRows(0);
        b.row(0, 2);
        b.start(0);
        b.input(0, 0);
        b.input(0, 1);
        b.run(10);
        b.test(0);
        Checks.due(b.restore(0), 3);
        Checks.due(b.motion(0, 8), 1);
        Checks.due(b.motion(0, 5), 3);
        Checks.due(b.motion(0, 6), 1);
        Checks.due(b.count(13), 0);
        b.run(17);
        Checks.due(b.inputInfo(0, 9), 1);
        b.run(1);
        Checks.due(b.inputInfo(0, 9), 0);
        Checks.due(b.stop(0), 21);
        b.undo();
        b.undo();
        b.undo();
        b.undo();
        Checks.due(b.count(8), 13);
        Checks.due(b.motion(0, 8), 2);
        Checks.due(b.stop(0), 10);
        Checks.due(b.motion(0, 5), 13);
    }

    private static void undo() {
        InterlockBoard b = new InterlockBoard();
        b.sensor(0);
        b.type('x');
        b.snapshot(0);
        b.input(0, 1);
        b.test(0);
        b.input(0, 0);
        Checks.due(b.count(14), 4);
        Checks.due(b.undo(), 3);
        Checks.due(b.inputInfo(0, 9), 1);
        Checks.due(b.inputInfo(0, 1), 1);
        Checks.due(b.undo(), 2);
        Checks.due(b.inputInfo(0, 9), 0);
        Checks.due(b.undo(), 1);
        Checks.due(b.inputInfo(0, 1), 0);
        Checks.due(b.undo(), 0);
        Checks.due(b.count(0), 0);
        Checks.due(b.count(15), 1);
        Checks.due(b.count(16), 1);
        Checks.due(b.undo(), NOT_POSSIBLE);
        Checks.due(b.restore(0), 0);
        Checks.due(b.count(0), 1);
        Checks.due(b.undo(), 0);
        Checks.due(b.count(0), 0);
        Checks.due(b.sensor(8), 0);
        Checks.due(b.inputInfo(0, 1), 0);
        Checks.due(b.inputInfo(0, 5), 8);
    }

    private static void historyOfFour() {
        InterlockBoard b = new InterlockBoard();
        for (int tick = 1; tick <= 9; tick++) {
            b.run(1);
            Checks.due(b.count(14), Math.min(tick, 4));
        }
        for (int left = 3; left >= 0; left--) {
            Checks.due(b.undo(), left);
            Checks.due(b.count(8), 5 + left);
        }
        Checks.due(b.undo(), NOT_POSSIBLE);
        b.run(3);
        Checks.due(b.count(14), 1);
        Checks.due(b.undo(), 0);
        Checks.due(b.count(8), 5);
    }

    /** Empties the history, so that one more state can be seen. */
    private static void emptyHistory(InterlockBoard b) {
        b.snapshot(0);
        for (int left = b.count(14); left > 0; left--) {
            b.undo();
        }
        b.restore(0);
        b.undo();
        b.restore(0);
        Checks.due(b.count(14), 1);
    }

    private static void changed(InterlockBoard b, int answer, int due) {
        Checks.due(answer, due);
        Checks.due(b.count(14), 2);
        Checks.due(b.undo(), 1);
    }

    /** Each change records a state, also if nothing becomes different. */
    private static void changes() {
        InterlockBoard b = Checks.withSensors(2);
        b.lock(0, -1);
        b.lock(1, -1);
        b.keyIn(1, 3);
        b.bridge(1, 9);
        b.row(0, 2);
        b.row(1, 1);
        b.row(2, 2);
        b.start(2);
        b.input(0, 1);
        b.start(1);
        b.input(0, 0);
        b.input(0, 1);
        emptyHistory(b);
        changed(b, b.sensor(0), 4);
        changed(b, b.lock(0, -1), 4);
        changed(b, b.essential(0, 0), 0);
        changed(b, b.input(0, 1), 0);
        changed(b, b.keyIn(0, 2), 2);
        changed(b, b.keyOut(1), 0);
        changed(b, b.bridge(0, 3), 2);
        changed(b, b.unbridge(1), 1);
        changed(b, b.row(0, 1), 2);
        changed(b, b.dropRows(5), 0);
        changed(b, b.exclude(0, 1, 0), 0);
        changed(b, b.start(0), 2);
        changed(b, b.stop(2), 0);
        changed(b, b.reset(1), 0);
        changed(b, b.test(0), 20);
        changed(b, b.run(1), 0);
        changed(b, b.restore(0), 0);
        changed(b, b.read(), 0);
    }

    private static void unchanged(InterlockBoard b, int answer, int due) {
        Checks.due(answer, due);
        Checks.due(b.count(14), 1);
    }

    private static void noChanges() {
        InterlockBoard b = Checks.withSensors(1);
        emptyHistory(b);
        unchanged(b, b.sensor(-1), INVALID);
        unchanged(b, b.lock(9, 9), INVALID);
        unchanged(b, b.essential(0, 2), INVALID);
        unchanged(b, b.input(0, 2), INVALID);
        unchanged(b, b.keyIn(0, 0), NOT_POSSIBLE);
        unchanged(b, b.keyOut(0), NOT_POSSIBLE);
        unchanged(b, b.bridge(0, 501), INVALID);
        unchanged(b, b.unbridge(0), NOT_POSSIBLE);
        unchanged(b, b.row(0, 2), INVALID);
        unchanged(b, b.dropRows(6), INVALID);
        unchanged(b, b.exclude(2, 2, 1), INVALID);
        unchanged(b, b.start(0), NOT_POSSIBLE);
        unchanged(b, b.stop(0), NOT_POSSIBLE);
        unchanged(b, b.reset(0), NOT_POSSIBLE);
        unchanged(b, b.test(0), NOT_POSSIBLE);
        unchanged(b, b.run(501), INVALID);
        unchanged(b, b.restore(1), NOT_POSSIBLE);
        unchanged(b, b.why(0), 3);
        unchanged(b, b.inputInfo(0, 0), 0);
        unchanged(b, b.snapshot(1), 2);
        unchanged(b, b.type('0'), 1);
        unchanged(b, b.fault(0), 0);
        unchanged(b, b.read(), NOT_POSSIBLE);
        unchanged(b, b.clearText(), 1);
    }

    /** What one change did is gone behind undo, whatever part of the state it touched. */
    private static void undoOfEach() {
        InterlockBoard b = Checks.withSensors(2);
        b.essential(0, 1);
        b.undo();
        Checks.due(b.inputInfo(0, 3), 0);
        b.bridge(0, 5);
        b.run(5);
        b.undo();
        Checks.due(b.inputInfo(0, 7), 5);
        Checks.due(b.inputInfo(0, 8), 0);
        b.undo();
        Checks.due(b.bridged(0), NOT_FOUND);
        b.row(0, 1);
        b.input(0, 1);
        b.start(0);
        b.input(0, 0);
        Checks.due(b.motion(0, 3), 0);
        b.undo();
        Checks.due(b.motion(0, 3), NOT_FOUND);
        Checks.due(b.motion(0, 4), NOT_FOUND);
        Checks.due(b.motion(0, 7), 0);
        Checks.due(b.motion(0, 2), 1);
        b.undo();
        Checks.due(b.motion(0, 6), 0);
        Checks.due(b.motion(0, 2), 0);
        b.exclude(0, 1, 1);
        b.undo();
        Checks.due(b.motion(1, 12), 0);
        b.dropRows(0);
        b.undo();
        Checks.due(b.motion(0, 8), 1);
        b.test(0);
        b.input(0, 0);
        b.run(3);
        b.input(0, 1);
        Checks.due(b.inputInfo(0, 6), 3);
        b.undo();
        Checks.due(b.inputInfo(0, 6), 0);
        Checks.due(b.count(13), 0);
        b.undo();
        b.run(21);
        Checks.due(b.inputInfo(0, 9), 0);
    }
}
