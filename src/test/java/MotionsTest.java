/** Promises 13 to 23: row, dropRows, exclude, start, why, stop, reset, motion, ways, needed. */
public final class MotionsTest {
    private static final int INVALID = InterlockBoard.INVALID_ARGUMENT;
    private static final int NOT_POSSIBLE = InterlockBoard.NOT_POSSIBLE;
    private static final int LIMIT = InterlockBoard.LIMIT_REACHED;
    private static final int NOT_FOUND = InterlockBoard.NOT_FOUND;

    public static void main(String[] arguments) {
        row();
        rowOfSixteen();
        dropRows();
        exclude();
        start();
        why();
        whyExcluded();
        stop();
        reset();
        motionInfo();
        motionStoppedTwice();
        ways();
        waysOfManyInputs();
        needed();
        wrongMotions();
        Checks.end("MotionsTest");
    }

    private static void row() {
        InterlockBoard b = Checks.withSensors(3);
        Checks.due(b.row(0, 0), INVALID);
        Checks.due(b.row(0, 8), INVALID);
        Checks.due(b.row(0, 9), INVALID);
        Checks.due(b.row(0, -1), INVALID);
        Checks.due(b.row(0, Integer.MIN_VALUE), INVALID);
        Checks.due(b.row(0, 1 | Integer.MIN_VALUE), INVALID);
        Checks.due(b.row(0, 7), 1);
        Checks.due(b.row(0, 7), 2);
        Checks.due(b.row(0, 1), 3);
        Checks.due(b.row(0, 4), 4);
        Checks.due(b.row(0, 2), LIMIT);
        Checks.due(b.row(0, 8), INVALID);
        Checks.due(b.row(5, 2), 1);
        b.input(0, 1);
        b.start(0);
        Checks.due(b.row(0, 2), NOT_POSSIBLE);
        Checks.due(b.row(0, 0), INVALID);
        Checks.due(b.motion(0, 0), 4);
        Checks.due(b.motion(0, 8), 7);
        Checks.due(b.motion(0, 11), 4);
    }

    private static void rowOfSixteen() {
        InterlockBoard b = Checks.withSensors(16);
        Checks.due(b.row(1, 65536), INVALID);
        Checks.due(b.row(1, 65535), 1);
        Checks.due(b.motion(1, 8), 65535);
        Checks.due(b.row(1, 32768), 2);
        b.input(15, 1);
        Checks.due(b.start(1), 1);
        Checks.due(b.input(15, 0), 1);
        Checks.due(b.motion(1, 3), 15);
    }

    private static void dropRows() {
        InterlockBoard b = Checks.withSensors(2);
        Checks.due(b.dropRows(2), 0);
        b.row(2, 1);
        b.row(2, 2);
        b.row(3, 2);
        b.input(0, 1);
        b.start(2);
        Checks.due(b.dropRows(2), NOT_POSSIBLE);
        b.stop(2);
        Checks.due(b.dropRows(2), 2);
        Checks.due(b.motion(2, 0), 0);
        Checks.due(b.motion(2, 8), NOT_FOUND);
        Checks.due(b.motion(2, 1), 0);
        Checks.due(b.needed(2), NOT_FOUND);
        Checks.due(b.motion(3, 0), 1);
        Checks.due(b.row(2, 2), 1);
        Checks.due(b.motion(2, 8), 2);
        Checks.due(b.motion(2, 9), NOT_FOUND);
    }

    private static void exclude() {
        InterlockBoard b = Checks.withSensors(1);
        Checks.due(b.exclude(0, 0, 1), INVALID);
        Checks.due(b.exclude(0, 6, 1), INVALID);
        Checks.due(b.exclude(6, 0, 1), INVALID);
        Checks.due(b.exclude(-1, 0, 1), INVALID);
        Checks.due(b.exclude(0, -1, 0), INVALID);
        Checks.due(b.exclude(0, 1, 2), INVALID);
        Checks.due(b.exclude(0, 1, -1), INVALID);
        Checks.due(b.exclude(0, 1, 0), 0);
        Checks.due(b.exclude(0, 1, 1), 0);
        Checks.due(b.exclude(1, 0, 1), 1);
        Checks.due(b.exclude(5, 0, 1), 0);
        Checks.due(b.motion(0, 12), 0b100010);
        Checks.due(b.motion(1, 12), 0b000001);
        Checks.due(b.motion(5, 12), 0b000001);
        Checks.due(b.exclude(1, 0, 0), 1);
        Checks.due(b.exclude(0, 1, 0), 0);
        Checks.due(b.motion(0, 12), 0b100000);
        b.input(0, 1);
        b.row(2, 1);
        b.row(3, 1);
        b.start(2);
        Checks.due(b.exclude(2, 3, 1), 0);
        Checks.due(b.exclude(2, 3, 0), 1);
        b.start(3);
        Checks.due(b.exclude(2, 3, 1), NOT_POSSIBLE);
        Checks.due(b.exclude(3, 2, 1), NOT_POSSIBLE);
        Checks.due(b.exclude(3, 2, 0), 0);
        Checks.due(b.exclude(3, 3, 1), INVALID);
    }

    private static void start() {
        InterlockBoard b = Checks.withSensors(1);
        Checks.due(b.start(0), NOT_POSSIBLE);
        b.row(0, 1);
        b.row(5, 1);
        Checks.due(b.start(0), NOT_POSSIBLE);
        b.input(0, 1);
        Checks.due(b.start(0), 1);
        Checks.due(b.start(0), NOT_POSSIBLE);
        Checks.due(b.start(5), 2);
        Checks.due(b.motion(5, 2), 1);
        Checks.due(b.motion(5, 6), 1);
        Checks.due(b.stop(0), 0);
        Checks.due(b.start(0), 2);
        Checks.due(b.motion(0, 6), 2);
        b.input(0, 0);
        b.input(0, 1);
        Checks.due(b.start(0), NOT_POSSIBLE);
        b.reset(0);
        Checks.due(b.start(0), 1);
    }

    /** The first reason that applies is told, whatever else stands against the start. */
    private static void why() {
        InterlockBoard b = Checks.withSensors(2);
        b.input(0, 1);
        b.row(0, 1);
        b.row(1, 1);
        b.row(1, 2);
        Checks.due(b.why(0), 0);
        Checks.due(b.why(2), 3);
        b.start(0);
        Checks.due(b.why(0), 1);
        b.input(0, 0);
        Checks.due(b.why(0), 2);
        Checks.due(b.why(1), 3);
        b.input(1, 1);
        b.exclude(0, 1, 1);
        b.start(1);
        Checks.due(b.why(0), 2);
        b.reset(0);
        Checks.due(b.why(0), 3);
        b.input(0, 1);
        Checks.due(b.why(0), 4);
        b.stop(1);
        Checks.due(b.why(0), 0);
    }

    private static void whyExcluded() {
        InterlockBoard b = Checks.withSensors(1);
        b.input(0, 1);
        b.row(0, 1);
        b.row(4, 1);
        b.row(5, 1);
        b.exclude(4, 0, 1);
        b.start(0);
        Checks.due(b.why(4), 4);
        Checks.due(b.why(5), 0);
        Checks.due(b.start(4), NOT_POSSIBLE);
        b.exclude(0, 4, 0);
        Checks.due(b.why(4), 0);
        b.exclude(0, 5, 1);
        b.exclude(0, 4, 1);
        b.stop(0);
        b.start(4);
        Checks.due(b.why(0), 4);
        Checks.due(b.why(5), 0);
    }

    private static void stop() {
        InterlockBoard b = Checks.withSensors(1);
        b.input(0, 1);
        b.row(0, 1);
        Checks.due(b.stop(0), NOT_POSSIBLE);
        b.start(0);
        b.run(7);
        b.run(2);
        Checks.due(b.stop(0), 9);
        Checks.due(b.stop(0), NOT_POSSIBLE);
        Checks.due(b.motion(0, 3), NOT_FOUND);
        Checks.due(b.motion(0, 4), NOT_FOUND);
        Checks.due(b.motion(0, 7), 0);
        b.run(1);
        b.start(0);
        b.run(4);
        Checks.due(b.stop(0), 4);
        Checks.due(b.motion(0, 5), 13);
        b.start(0);
        Checks.due(b.stop(0), 0);
    }

    private static void reset() {
        InterlockBoard b = Checks.withSensors(2);
        b.input(1, 1);
        b.row(0, 2);
        Checks.due(b.reset(0), NOT_POSSIBLE);
        b.start(0);
        Checks.due(b.reset(0), NOT_POSSIBLE);
        b.input(1, 0);
        Checks.due(b.count(7), 1);
        Checks.due(b.reset(0), 1);
        Checks.due(b.reset(0), NOT_POSSIBLE);
        Checks.due(b.motion(0, 3), NOT_FOUND);
        Checks.due(b.motion(0, 4), 0);
        Checks.due(b.count(7), 0);
    }

    private static void motionInfo() {
        InterlockBoard b = Checks.withSensors(3);
        b.row(1, 5);
        b.row(1, 2);
        b.row(1, 2);
        b.exclude(1, 3, 1);
        b.exclude(1, 0, 1);
        int[] resting = {3, 0, 0, NOT_FOUND, NOT_FOUND, 0, 0, 0, 5, 2, 2, NOT_FOUND, 0b001001};
        for (int what = 0; what < resting.length; what++) {
            Checks.due(b.motion(1, what), resting[what]);
        }
        b.input(1, 1);
        b.start(1);
        b.run(3);
        int[] running = {3, 1, 1, NOT_FOUND, NOT_FOUND, 3, 1, 0, 5, 2, 2, NOT_FOUND, 0b001001};
        for (int what = 0; what < running.length; what++) {
            Checks.due(b.motion(1, what), running[what]);
        }
        b.input(1, 0);
        b.run(4);
        int[] stopped = {3, 0, 0, 1, 3, 3, 1, 1, 5, 2, 2, NOT_FOUND, 0b001001};
        for (int what = 0; what < stopped.length; what++) {
            Checks.due(b.motion(1, what), stopped[what]);
        }
    }

    private static void motionStoppedTwice() {
        InterlockBoard b = Checks.withSensors(1);
        b.row(0, 1);
        for (int time = 1; time <= 3; time++) {
            b.input(0, 1);
            Checks.due(b.start(0), 1);
            b.run(2);
            Checks.due(b.input(0, 0), 1);
            Checks.due(b.motion(0, 4), 2 * time);
            Checks.due(b.motion(0, 5), 2 * time);
            Checks.due(b.motion(0, 6), time);
            Checks.due(b.motion(0, 7), time);
            Checks.due(b.reset(0), 0);
        }
    }

    private static void bothWays(InterlockBoard b, int motion, int due) {
        Checks.due(b.ways(motion), due);
        Checks.due(b.waysAgain(motion), due);
    }

    private static void ways() {
        InterlockBoard b = Checks.withSensors(16);
        bothWays(b, 0, 0);
        b.row(0, 0b1);
        bothWays(b, 0, 1);
        b.row(0, 0b10);
        bothWays(b, 0, 3);
        b.row(0, 0b11);
        bothWays(b, 0, 3);
        b.row(0, 0b1100);
        bothWays(b, 0, 13);
        b.row(1, 0b1000000000000011);
        bothWays(b, 1, 1);
        b.row(1, 0b1000000000000100);
        bothWays(b, 1, 5);
        b.row(2, 0b0111);
        b.row(2, 0b0111);
        bothWays(b, 2, 1);
        b.input(0, 1);
        b.bridge(1, 5);
        bothWays(b, 0, 13);
    }

    private static void waysOfManyInputs() {
        InterlockBoard b = Checks.withSensors(16);
        b.row(0, 0b0000000000000111);
        b.row(0, 0b0000000000111000);
        b.row(0, 0b0000000111000000);
        b.row(0, 0b0000111000000000);
        bothWays(b, 0, 4096 - 7 * 7 * 7 * 7);
        b.row(1, 0b1111111111110000);
        bothWays(b, 1, 1);
        b.row(1, 0b0001111111110000);
        bothWays(b, 1, 8);
        b.row(1, 0b0000000000000001);
        bothWays(b, 1, LIMIT);
        b.row(2, 0b1111111111111111);
        bothWays(b, 2, LIMIT);
        b.row(3, 0b0111111000000000);
        b.row(3, 0b0000000001111111);
        bothWays(b, 3, LIMIT);
        b.dropRows(3);
        bothWays(b, 3, 0);
    }

    private static void needed() {
        InterlockBoard b = new InterlockBoard();
        b.sensor(1);
        b.sensor(0);
        b.sensor(0);
        b.sensor(0);
        Checks.due(b.needed(0), NOT_FOUND);
        b.row(0, 0b0111);
        b.row(0, 0b1100);
        b.row(0, 0b1010);
        Checks.due(b.needed(0), 0b1100);
        b.input(1, 1);
        Checks.due(b.needed(0), 0b1000);
        b.input(0, 1);
        Checks.due(b.needed(0), 0b0100);
        b.run(2);
        Checks.due(b.needed(0), 0b1000);
        b.input(3, 1);
        Checks.due(b.needed(0), 0);
        b.input(3, 0);
        b.bridge(3, 1);
        Checks.due(b.needed(0), 0);
        b.run(1);
        Checks.due(b.needed(0), 0b1000);
    }

    private static void wrongMotions() {
        InterlockBoard b = Checks.withSensors(1);
        int[] wrong = {-1, 6, Integer.MIN_VALUE, Integer.MAX_VALUE};
        for (int motion : wrong) {
            Checks.due(b.row(motion, 1), INVALID);
            Checks.due(b.dropRows(motion), INVALID);
            Checks.due(b.start(motion), INVALID);
            Checks.due(b.why(motion), INVALID);
            Checks.due(b.stop(motion), INVALID);
            Checks.due(b.reset(motion), INVALID);
            Checks.due(b.motion(motion, 0), INVALID);
            Checks.due(b.ways(motion), INVALID);
            Checks.due(b.waysAgain(motion), INVALID);
            Checks.due(b.needed(motion), INVALID);
        }
        Checks.due(b.motion(0, 13), INVALID);
        Checks.due(b.motion(0, -1), INVALID);
        Checks.due(b.motion(0, Integer.MAX_VALUE), INVALID);
    }
}
