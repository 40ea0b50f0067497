/** Promises 1 to 6: a new object, sensor, lock, essential, input, inputInfo. */
public final class InputsTest {
    private static final int INVALID = InterlockBoard.INVALID_ARGUMENT;
    private static final int NOT_POSSIBLE = InterlockBoard.NOT_POSSIBLE;
    private static final int LIMIT = InterlockBoard.LIMIT_REACHED;
    private static final int NOT_FOUND = InterlockBoard.NOT_FOUND;

    public static void main(String[] arguments) {
        constants();
        newBoard();
        sensor();
        lock();
        sixteenInputs();
        essential();
        input();
        inputStopsMotions();
        infoOfSensor();
        infoOfLock();
        infoOfOverdue();
        infoOfBridged();
        infoOfTest();
        wrongInfo();
        Checks.end("InputsTest");
    }

    private static void constants() {
        Checks.due(InterlockBoard.INVALID_ARGUMENT, -1);
        Checks.due(InterlockBoard.NOT_POSSIBLE, -2);
        Checks.due(InterlockBoard.LIMIT_REACHED, -3);
        Checks.due(InterlockBoard.NOT_FOUND, -4);
    }

    private static void newBoard() {
        InterlockBoard b = new InterlockBoard();
        for (int what = 0; what <= 16; what++) {
            Checks.due(b.count(what), 0);
        }
        for (int key = 0; key < 6; key++) {
            Checks.due(b.key(key), NOT_FOUND);
        }
        for (int motion = 0; motion < 6; motion++) {
            for (int what = 0; what <= 12; what++) {
                boolean none = what == 3 || what == 4 || (what >= 8 && what <= 11);
                Checks.due(b.motion(motion, what), none ? NOT_FOUND : 0);
            }
            Checks.due(b.why(motion), 3);
            Checks.due(b.ways(motion), 0);
            Checks.due(b.waysAgain(motion), 0);
            Checks.due(b.needed(motion), NOT_FOUND);
        }
        Checks.due(b.inputInfo(0, 0), INVALID);
        Checks.due(b.bridged(0), NOT_FOUND);
        Checks.due(b.restore(0), NOT_POSSIBLE);
        Checks.due(b.restore(1), NOT_POSSIBLE);
        Checks.due(b.undo(), NOT_POSSIBLE);
        Checks.due(b.fault(0), NOT_FOUND);
        Checks.due(b.clearText(), 0);
    }

    private static void sensor() {
        InterlockBoard b = new InterlockBoard();
        Checks.due(b.sensor(-1), INVALID);
        Checks.due(b.sensor(5001), INVALID);
        Checks.due(b.sensor(Integer.MIN_VALUE), INVALID);
        Checks.due(b.sensor(Integer.MAX_VALUE), INVALID);
        Checks.due(b.count(0), 0);
        Checks.due(b.sensor(0), 0);
        Checks.due(b.sensor(5000), 1);
        Checks.due(b.run(3), 0);
        Checks.due(b.sensor(1), 2);
        Checks.due(b.inputInfo(0, 5), 0);
        Checks.due(b.inputInfo(1, 5), 5000);
        Checks.due(b.inputInfo(2, 5), 1);
        Checks.due(b.inputInfo(1, 6), 0);
        Checks.due(b.inputInfo(2, 6), 3);
        Checks.due(b.inputInfo(2, 1), 0);
        Checks.due(b.count(0), 3);
    }

    private static void lock() {
        InterlockBoard b = new InterlockBoard();
        Checks.due(b.lock(-1, -1), INVALID);
        Checks.due(b.lock(6, -1), INVALID);
        Checks.due(b.lock(0, 0), INVALID);
        Checks.due(b.lock(0, -2), INVALID);
        Checks.due(b.lock(0, Integer.MIN_VALUE), INVALID);
        Checks.due(b.lock(0, -1), 0);
        Checks.due(b.lock(5, 1), INVALID);
        Checks.due(b.lock(5, 0), 1);
        Checks.due(b.run(2), 0);
        Checks.due(b.lock(5, 1), 2);
        Checks.due(b.inputInfo(0, 10), 0);
        Checks.due(b.inputInfo(1, 10), 5);
        Checks.due(b.inputInfo(2, 10), 5);
        Checks.due(b.inputInfo(0, 11), NOT_FOUND);
        Checks.due(b.inputInfo(1, 11), 0);
        Checks.due(b.inputInfo(2, 11), 1);
        Checks.due(b.inputInfo(2, 6), 2);
        Checks.due(b.inputInfo(2, 5), 0);
        Checks.due(b.inputInfo(2, 1), 0);
    }

    private static void sixteenInputs() {
        InterlockBoard b = new InterlockBoard();
        for (int input = 0; input < 16; input++) {
            Checks.due(input % 2 == 0 ? b.sensor(7) : b.lock(3, input - 1), input);
        }
        Checks.due(b.sensor(0), LIMIT);
        Checks.due(b.lock(0, -1), LIMIT);
        Checks.due(b.lock(0, 15), LIMIT);
        Checks.due(b.sensor(5001), INVALID);
        Checks.due(b.lock(6, -1), INVALID);
        Checks.due(b.lock(0, 16), INVALID);
        Checks.due(b.count(0), 16);
        Checks.due(b.inputInfo(15, 0), 1);
        Checks.due(b.inputInfo(16, 0), INVALID);
        Checks.due(b.count(14), 4);
        Checks.due(b.key(3), NOT_FOUND);
        Checks.due(b.keyIn(3, 15), 1);
        Checks.due(b.key(3), 15);
        Checks.due(b.count(4), 1);
        Checks.due(b.bridge(15, 2), 1);
        Checks.due(b.bridged(0), 15);
        Checks.due(b.run(9), 0);
        Checks.due(b.count(1), 1);
        Checks.due(b.count(2), 8);
        Checks.due(b.count(12), 2);
    }

    private static void essential() {
        InterlockBoard b = Checks.withSensors(2);
        Checks.due(b.essential(0, 1), 0);
        Checks.due(b.essential(0, 1), 1);
        Checks.due(b.inputInfo(0, 3), 1);
        Checks.due(b.inputInfo(1, 3), 0);
        Checks.due(b.essential(0, 0), 1);
        Checks.due(b.essential(0, 0), 0);
        Checks.due(b.inputInfo(0, 3), 0);
        Checks.due(b.essential(-1, 0), INVALID);
        Checks.due(b.essential(2, 1), INVALID);
        Checks.due(b.essential(0, 2), INVALID);
        Checks.due(b.essential(0, -1), INVALID);
        Checks.due(b.bridge(1, 1), 1);
        Checks.due(b.essential(1, 1), NOT_POSSIBLE);
        Checks.due(b.essential(1, 2), INVALID);
        Checks.due(b.essential(1, 0), 0);
        Checks.due(b.inputInfo(1, 3), 0);
        Checks.due(b.run(1), 0);
        Checks.due(b.essential(1, 1), 0);
        Checks.due(b.lock(0, -1), 2);
        Checks.due(b.essential(2, 1), 0);
        Checks.due(b.inputInfo(2, 3), 1);
    }

    private static void input() {
        InterlockBoard b = Checks.withSensors(2);
        b.lock(0, -1);
        Checks.due(b.input(1, 1), 0);
        Checks.due(b.inputInfo(1, 1), 1);
        Checks.due(b.inputInfo(0, 1), 0);
        Checks.due(b.input(1, 1), 0);
        Checks.due(b.inputInfo(1, 1), 1);
        Checks.due(b.input(1, 0), 0);
        Checks.due(b.input(1, 0), 0);
        Checks.due(b.inputInfo(1, 1), 0);
        Checks.due(b.input(2, 1), NOT_POSSIBLE);
        Checks.due(b.input(2, 0), NOT_POSSIBLE);
        Checks.due(b.input(2, 2), INVALID);
        Checks.due(b.input(3, 1), INVALID);
        Checks.due(b.input(-1, 1), INVALID);
        Checks.due(b.input(0, -1), INVALID);
        Checks.due(b.input(0, 2), INVALID);
    }

    /** First out: what has just begun to count as open goes ahead of what was open before. */
    private static void inputStopsMotions() {
        InterlockBoard b = Checks.withSensors(4);
        b.input(1, 1);
        b.input(2, 1);
        b.input(3, 1);
        b.row(0, 0b0101);
        b.row(0, 0b1100);
        b.row(3, 0b1000);
        b.row(5, 0b1000);
        b.row(5, 0b0010);
        Checks.due(b.start(0), 1);
        Checks.due(b.start(3), 2);
        Checks.due(b.start(5), 3);
        Checks.due(b.run(6), 0);
        Checks.due(b.input(3, 0), 2);
        Checks.due(b.motion(0, 3), 3);
        Checks.due(b.motion(3, 3), 3);
        Checks.due(b.motion(5, 2), 1);
        Checks.due(b.motion(0, 4), 6);
        Checks.due(b.motion(0, 7), 1);
        Checks.due(b.input(1, 0), 1);
        Checks.due(b.motion(5, 3), 1);
        Checks.due(b.input(0, 1), 0);
        Checks.due(b.count(11), 3);
    }

    private static void infoOfSensor() {
        InterlockBoard b = new InterlockBoard();
        b.sensor(30);
        int[] open = {0, 0, 0, 0, 0, 30, 0, 0, 0, 0, NOT_FOUND, NOT_FOUND};
        for (int what = 0; what < open.length; what++) {
            Checks.due(b.inputInfo(0, what), open[what]);
        }
        b.input(0, 1);
        b.essential(0, 1);
        int[] closed = {0, 1, 1, 1, 0, 30, 0, 0, 0, 0, NOT_FOUND, NOT_FOUND};
        for (int what = 0; what < closed.length; what++) {
            Checks.due(b.inputInfo(0, what), closed[what]);
        }
    }

    private static void infoOfLock() {
        InterlockBoard b = new InterlockBoard();
        b.run(4);
        b.lock(0, -1);
        b.lock(4, 0);
        b.keyIn(4, 1);
        int[] first = {1, 0, 0, 0, 0, 0, 4, 0, 0, 0, 0, NOT_FOUND};
        int[] second = {1, 1, 1, 0, 0, 0, 4, 0, 0, 0, 4, 0};
        for (int what = 0; what < first.length; what++) {
            Checks.due(b.inputInfo(0, what), first[what]);
            Checks.due(b.inputInfo(1, what), second[what]);
        }
        Checks.runTicks(b, 6000);
        Checks.due(b.inputInfo(1, 4), 0);
        Checks.due(b.inputInfo(1, 2), 1);
    }

    /** Equally many ticks as the interval are not too many yet; an open input is overdue too. */
    private static void infoOfOverdue() {
        InterlockBoard b = new InterlockBoard();
        b.sensor(3);
        b.sensor(1);
        b.sensor(0);
        b.input(0, 1);
        b.input(2, 1);
        Checks.due(b.run(1), 0);
        Checks.due(b.inputInfo(1, 4), 0);
        Checks.due(b.run(1), 0);
        Checks.due(b.inputInfo(1, 4), 1);
        Checks.due(b.run(1), 0);
        Checks.due(b.inputInfo(0, 4), 0);
        Checks.due(b.inputInfo(0, 2), 1);
        Checks.due(b.run(1), 0);
        Checks.due(b.inputInfo(0, 4), 1);
        Checks.due(b.inputInfo(0, 1), 1);
        Checks.due(b.inputInfo(0, 2), 0);
        Checks.due(b.count(2), 2);
        Checks.runTicks(b, 5500);
        Checks.due(b.inputInfo(2, 4), 0);
        Checks.due(b.inputInfo(2, 2), 1);
        Checks.due(b.inputInfo(2, 6), 0);
    }

    private static void infoOfBridged() {
        InterlockBoard b = new InterlockBoard();
        b.sensor(1);
        b.bridge(0, 5);
        Checks.due(b.inputInfo(0, 7), 5);
        Checks.due(b.inputInfo(0, 8), 0);
        Checks.due(b.inputInfo(0, 1), 0);
        Checks.due(b.inputInfo(0, 2), 1);
        b.run(3);
        Checks.due(b.inputInfo(0, 4), 1);
        Checks.due(b.inputInfo(0, 2), 1);
        Checks.due(b.inputInfo(0, 7), 2);
        Checks.due(b.inputInfo(0, 8), 3);
        b.run(4);
        Checks.due(b.inputInfo(0, 7), 0);
        Checks.due(b.inputInfo(0, 8), 5);
        Checks.due(b.inputInfo(0, 2), 0);
        b.bridge(0, 500);
        b.run(2);
        b.unbridge(0);
        Checks.due(b.inputInfo(0, 7), 0);
        Checks.due(b.inputInfo(0, 8), 7);
    }

    private static void infoOfTest() {
        InterlockBoard b = new InterlockBoard();
        b.sensor(0);
        b.input(0, 1);
        Checks.due(b.inputInfo(0, 9), 0);
        b.test(0);
        Checks.due(b.inputInfo(0, 9), 1);
        b.input(0, 1);
        Checks.due(b.inputInfo(0, 9), 1);
        b.input(0, 0);
        Checks.due(b.inputInfo(0, 9), 2);
        b.input(0, 0);
        Checks.due(b.inputInfo(0, 9), 2);
        b.input(0, 1);
        Checks.due(b.inputInfo(0, 9), 0);
    }

    private static void wrongInfo() {
        InterlockBoard b = Checks.withSensors(1);
        Checks.due(b.inputInfo(0, 12), INVALID);
        Checks.due(b.inputInfo(0, -1), INVALID);
        Checks.due(b.inputInfo(1, 10), INVALID);
        Checks.due(b.inputInfo(-1, 0), INVALID);
        Checks.due(b.inputInfo(Integer.MAX_VALUE, Integer.MIN_VALUE), INVALID);
    }
}
