/** Promises 7 to 12: keyIn, keyOut, key, bridge, unbridge, bridged. */
public final class KeysAndBridgesTest {
    private static final int INVALID = InterlockBoard.INVALID_ARGUMENT;
    private static final int NOT_POSSIBLE = InterlockBoard.NOT_POSSIBLE;
    private static final int LIMIT = InterlockBoard.LIMIT_REACHED;
    private static final int NOT_FOUND = InterlockBoard.NOT_FOUND;

    public static void main(String[] arguments) {
        keyIn();
        keyOut();
        guards();
        keyOutStopsMotions();
        key();
        bridge();
        bridgeMakesClosed();
        unbridge();
        unbridgeStopsMotions();
        bridged();
        bridgedEndingTogether();
        Checks.end("KeysAndBridgesTest");
    }

    private static void keyIn() {
        InterlockBoard b = new InterlockBoard();
        b.lock(0, -1);
        b.lock(0, -1);
        b.lock(1, -1);
        b.sensor(0);
        Checks.due(b.keyIn(-1, 0), INVALID);
        Checks.due(b.keyIn(6, 0), INVALID);
        Checks.due(b.keyIn(0, -1), INVALID);
        Checks.due(b.keyIn(0, 4), INVALID);
        Checks.due(b.keyIn(0, 2), NOT_POSSIBLE);
        Checks.due(b.keyIn(0, 3), NOT_POSSIBLE);
        Checks.due(b.keyIn(5, 0), NOT_POSSIBLE);
        Checks.due(b.inputInfo(0, 1), 0);
        Checks.due(b.keyIn(0, 1), 1);
        Checks.due(b.inputInfo(1, 1), 1);
        Checks.due(b.inputInfo(0, 1), 0);
        Checks.due(b.keyIn(0, 0), NOT_POSSIBLE);
        Checks.due(b.keyIn(0, 1), NOT_POSSIBLE);
        Checks.due(b.keyIn(0, 4), INVALID);
        Checks.due(b.keyIn(1, 2), 2);
        Checks.due(b.input(3, 1), 0);
        Checks.due(b.count(4), 2);
    }

    private static void keyOut() {
        InterlockBoard b = new InterlockBoard();
        b.lock(2, -1);
        b.lock(2, -1);
        Checks.due(b.keyOut(-1), INVALID);
        Checks.due(b.keyOut(6), INVALID);
        Checks.due(b.keyOut(2), NOT_POSSIBLE);
        b.keyIn(2, 1);
        Checks.due(b.keyOut(1), NOT_POSSIBLE);
        Checks.due(b.keyOut(2), 0);
        Checks.due(b.inputInfo(1, 1), 0);
        Checks.due(b.count(4), 0);
        Checks.due(b.keyOut(2), NOT_POSSIBLE);
        Checks.due(b.keyIn(2, 0), 1);
        Checks.due(b.inputInfo(0, 1), 1);
    }

    /** A guard that is closed but overdue counts as open, one that is open but bridged does not. */
    private static void guards() {
        InterlockBoard b = new InterlockBoard();
        b.sensor(2);
        b.lock(0, 0);
        b.lock(3, 1);
        b.keyIn(0, 1);
        Checks.due(b.keyOut(0), NOT_POSSIBLE);
        b.input(0, 1);
        b.run(3);
        Checks.due(b.keyOut(0), NOT_POSSIBLE);
        b.input(0, 0);
        b.bridge(0, 9);
        Checks.due(b.keyOut(0), 0);
        b.keyIn(3, 2);
        Checks.due(b.keyOut(3), NOT_POSSIBLE);
        b.keyIn(0, 1);
        Checks.due(b.keyOut(3), 0);
    }

    private static void keyOutStopsMotions() {
        InterlockBoard b = new InterlockBoard();
        b.sensor(0);
        b.lock(1, -1);
        b.keyIn(1, 1);
        b.input(0, 1);
        b.row(4, 0b11);
        b.row(2, 0b10);
        b.row(1, 0b01);
        b.start(4);
        b.start(2);
        b.start(1);
        b.run(2);
        Checks.due(b.keyOut(1), 2);
        Checks.due(b.motion(4, 3), 1);
        Checks.due(b.motion(2, 3), 1);
        Checks.due(b.motion(1, 3), NOT_FOUND);
        Checks.due(b.motion(2, 4), 2);
        Checks.due(b.count(5), 1);
    }

    private static void key() {
        InterlockBoard b = new InterlockBoard();
        b.lock(3, -1);
        b.lock(3, -1);
        Checks.due(b.key(3), NOT_FOUND);
        b.keyIn(3, 1);
        Checks.due(b.key(3), 1);
        Checks.due(b.key(0), NOT_FOUND);
        Checks.due(b.key(6), INVALID);
        Checks.due(b.key(-1), INVALID);
        b.keyOut(3);
        b.keyIn(3, 0);
        Checks.due(b.key(3), 0);
        b.keyOut(3);
        b.bridge(1, 5);
        Checks.due(b.key(3), NOT_FOUND);
    }

    private static void bridge() {
        InterlockBoard b = Checks.withSensors(6);
        Checks.due(b.bridge(-1, 1), INVALID);
        Checks.due(b.bridge(6, 1), INVALID);
        Checks.due(b.bridge(0, 0), INVALID);
        Checks.due(b.bridge(0, 501), INVALID);
        Checks.due(b.bridge(0, -5), INVALID);
        b.essential(5, 1);
        Checks.due(b.bridge(5, 1), NOT_POSSIBLE);
        Checks.due(b.bridge(5, 501), INVALID);
        Checks.due(b.bridge(0, 500), 1);
        Checks.due(b.bridge(0, 500), NOT_POSSIBLE);
        Checks.due(b.bridge(1, 1), 2);
        Checks.due(b.bridge(2, 3), 3);
        Checks.due(b.bridge(3, 3), LIMIT);
        Checks.due(b.bridge(5, 3), NOT_POSSIBLE);
        Checks.due(b.bridge(2, 3), NOT_POSSIBLE);
        Checks.due(b.bridge(3, 0), INVALID);
        Checks.due(b.count(3), 3);
        Checks.due(b.run(1), 0);
        Checks.due(b.bridge(3, 3), 3);
        Checks.due(b.inputInfo(0, 7), 499);
        b.unbridge(3);
        b.essential(5, 0);
        Checks.due(b.bridge(5, 2), 3);
        b.run(499);
        Checks.due(b.inputInfo(0, 7), 0);
        Checks.due(b.inputInfo(0, 8), 500);
        Checks.due(b.count(3), 0);
    }

    /** A bridged lock counts as closed though its key is at hand. */
    private static void bridgeMakesClosed() {
        InterlockBoard b = new InterlockBoard();
        b.lock(0, -1);
        b.row(0, 1);
        Checks.due(b.why(0), 3);
        b.bridge(0, 2);
        Checks.due(b.inputInfo(0, 1), 0);
        Checks.due(b.inputInfo(0, 2), 1);
        Checks.due(b.start(0), 1);
        Checks.due(b.keyIn(0, 0), 1);
        Checks.due(b.keyOut(0), 0);
        Checks.due(b.run(1), 0);
        Checks.due(b.run(1), 1);
        Checks.due(b.motion(0, 3), 0);
        Checks.due(b.motion(0, 4), 2);
        Checks.due(b.motion(0, 5), 1);
    }

    private static void unbridge() {
        InterlockBoard b = Checks.withSensors(2);
        Checks.due(b.unbridge(-1), INVALID);
        Checks.due(b.unbridge(2), INVALID);
        Checks.due(b.unbridge(0), NOT_POSSIBLE);
        b.bridge(0, 3);
        Checks.due(b.unbridge(1), NOT_POSSIBLE);
        Checks.due(b.unbridge(0), 0);
        Checks.due(b.inputInfo(0, 2), 0);
        Checks.due(b.unbridge(0), NOT_POSSIBLE);
        b.bridge(0, 3);
        b.run(3);
        Checks.due(b.unbridge(0), NOT_POSSIBLE);
    }

    private static void unbridgeStopsMotions() {
        InterlockBoard b = Checks.withSensors(3);
        b.input(2, 1);
        b.bridge(1, 9);
        b.bridge(2, 9);
        b.row(0, 0b110);
        b.row(0, 0b011);
        b.row(5, 0b010);
        b.row(3, 0b100);
        b.start(0);
        b.start(5);
        b.start(3);
        Checks.due(b.unbridge(2), 0);
        b.run(1);
        Checks.due(b.unbridge(1), 2);
        Checks.due(b.motion(0, 3), 1);
        Checks.due(b.motion(5, 3), 1);
        Checks.due(b.motion(3, 2), 1);
        Checks.due(b.motion(0, 4), 1);
    }

    private static void bridged() {
        InterlockBoard b = Checks.withSensors(16);
        Checks.due(b.bridged(-1), INVALID);
        Checks.due(b.bridged(Integer.MIN_VALUE), INVALID);
        Checks.due(b.bridged(0), NOT_FOUND);
        b.bridge(2, 9);
        b.bridge(15, 4);
        b.run(2);
        b.bridge(7, 3);
        Checks.due(b.bridged(0), 15);
        Checks.due(b.bridged(1), 7);
        Checks.due(b.bridged(2), 2);
        Checks.due(b.bridged(3), NOT_FOUND);
        Checks.due(b.bridged(Integer.MAX_VALUE), NOT_FOUND);
        b.run(2);
        Checks.due(b.bridged(0), 7);
        Checks.due(b.bridged(1), 2);
        Checks.due(b.bridged(2), NOT_FOUND);
    }

    private static void bridgedEndingTogether() {
        InterlockBoard b = Checks.withSensors(6);
        b.bridge(5, 4);
        b.run(1);
        b.bridge(3, 3);
        b.bridge(4, 3);
        Checks.due(b.bridged(0), 3);
        Checks.due(b.bridged(1), 4);
        Checks.due(b.bridged(2), 5);
        b.unbridge(4);
        b.bridge(0, 3);
        Checks.due(b.bridged(0), 0);
        Checks.due(b.bridged(1), 3);
        Checks.due(b.bridged(2), 5);
    }
}
