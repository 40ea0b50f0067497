/** Promises 7 to 12: keyIn, keyOut, key, bridge, unbridge, bridged. */
final class KeysAndBridgesSentences extends Sentences {
    static void test() {
        keyIn();
        keyOut();
        placeOfKey();
        bridge();
        bridgeRefused();
        unbridge();
        bridged();
    }

    private static void keyIn() {
        section("Promise 7: keyIn");
        says("`int keyIn(int key, int input)`: Puts a key into a lock.", () -> {
            InterlockBoard b = withLocks();
            b.keyIn(0, 1);
            b.keyIn(5, 6);
            due(b.key(0), 1);
            due(b.key(5), 6);
            due(b.inputInfo(1, 1), 1);
            due(b.inputInfo(6, 1), 1);
            due(b.inputInfo(2, 1), 0);
        });
        says("`key`: 0 to 5", () -> {
            InterlockBoard b = withLocks();
            due(b.keyIn(0, 1), 1);
            due(b.keyIn(5, 6), 2);
        });
        says("`input`: number of an input", () -> {
            InterlockBoard b = new InterlockBoard();
            for (int input = 0; input < 16; input++) {
                b.lock(input % 15 == 0 ? input / 15 : 2, -1);
            }
            due(b.keyIn(0, 0), 1);
            due(b.keyIn(1, 15), 2);
        });
        says("Returns the number of keys that are in locks;", () -> {
            InterlockBoard b = withLocks();
            b.bridge(6, 9);
            for (int key = 0; key < 6; key++) {
                due(b.keyIn(key, key + 1), key + 1);
            }
            b.keyOut(3);
            b.keyOut(4);
            due(b.keyIn(3, 4), 5);
        });
        says(" INVALID_ARGUMENT if an argument is out of range;", () -> {
            InterlockBoard b = withLocks();
            outOfRange(0, 5, key -> b.keyIn(key, 1));
            outOfRange(0, 6, input -> b.keyIn(0, input));
            due(b.count(4), 0);
        });
        says(" NOT_POSSIBLE if the key is not at hand,", () -> {
            InterlockBoard b = withLocks();
            b.lock(5, -1);
            b.keyIn(5, 7);
            due(b.keyIn(5, 7), NOT_POSSIBLE);
            due(b.keyIn(5, 6), NOT_POSSIBLE);
            due(b.key(5), 7);
            b.keyOut(5);
            due(b.keyIn(5, 6), 1);
        });
        says(" or the input is not a lock for it.", () -> {
            InterlockBoard b = withLocks();
            due(b.keyIn(0, 0), NOT_POSSIBLE);
            due(b.keyIn(5, 0), NOT_POSSIBLE);
            due(b.keyIn(5, 5), NOT_POSSIBLE);
            due(b.keyIn(0, 2), NOT_POSSIBLE);
            due(b.count(4), 0);
            due(b.inputInfo(0, 1), 0);
        });
    }

    private static void keyOut() {
        section("Promise 8: keyOut");
        says("`int keyOut(int key)`: Takes a key out of its lock.", () -> {
            InterlockBoard b = withLocks();
            b.keyIn(0, 1);
            b.keyIn(5, 6);
            due(b.keyOut(5), 0);
            due(b.key(5), NOT_FOUND);
            due(b.inputInfo(6, 1), 0);
            due(b.key(0), 1);
            due(b.inputInfo(1, 1), 1);
        });
        says("`key`: 0 to 5", () -> {
            InterlockBoard b = withLocks();
            for (int key = 0; key < 6; key++) {
                b.keyIn(key, key + 1);
            }
            for (int key = 0; key < 6; key++) {
                due(b.keyOut(key), 0);
                due(b.count(4), 5 - key);
            }
        });
        says("Returns how many motions are stopped by this;", () -> {
            InterlockBoard b = withLocks();
            b.keyIn(5, 6);
            for (int motion = 0; motion < 6; motion++) {
                b.row(motion, 1 << 6);
                b.start(motion);
            }
            b.bridge(6, 1);
            due(b.keyOut(5), 0);
            b.keyIn(5, 6);
            b.run(1);
            due(b.count(5), 6);
            due(b.keyOut(5), 6);
            b.keyIn(5, 6);
            due(b.keyOut(5), 0);
        });
        says(" INVALID_ARGUMENT if key is out of range;", () -> {
            InterlockBoard b = withLocks();
            b.keyIn(0, 1);
            outOfRange(0, 5, key -> b.keyOut(key));
            due(b.count(4), 1);
        });
        says(" NOT_POSSIBLE if it is at hand,", () -> {
            InterlockBoard b = withLocks();
            due(b.keyOut(0), NOT_POSSIBLE);
            b.keyIn(0, 1);
            due(b.keyOut(1), NOT_POSSIBLE);
            due(b.keyOut(0), 0);
            due(b.keyOut(0), NOT_POSSIBLE);
            b.bridge(1, 1);
            due(b.keyOut(0), NOT_POSSIBLE);
        });
        says(" or the guard counts as open.", () -> {
            InterlockBoard b = new InterlockBoard();
            b.lock(0, -1);
            b.lock(1, 0);
            b.lock(2, 1);
            b.keyIn(1, 1);
            b.keyIn(2, 2);
            due(b.keyOut(1), NOT_POSSIBLE);
            due(b.key(1), 1);
            due(b.keyOut(2), 0);
            b.keyIn(0, 0);
            due(b.keyOut(1), 0);
            b.keyIn(1, 1);
            b.keyOut(0);
            due(b.keyOut(1), NOT_POSSIBLE);
            b.bridge(1, 1);
            due(b.keyOut(1), NOT_POSSIBLE);
            b.bridge(0, 1);
            due(b.keyOut(1), 0);
        });
    }

    private static void placeOfKey() {
        section("Promise 9: key");
        says("`int key(int key)`: Returns where a key is.", () -> {
            InterlockBoard b = withLocks();
            b.lock(2, -1);
            b.keyIn(2, 7);
            b.keyIn(3, 4);
            due(b.key(2), 7);
            due(b.key(3), 4);
        });
        says("`key`: 0 to 5", () -> {
            InterlockBoard b = withLocks();
            b.keyIn(0, 1);
            b.keyIn(5, 6);
            due(b.key(0), 1);
            due(b.key(5), 6);
        });
        says("Returns the input;", () -> {
            InterlockBoard b = new InterlockBoard();
            for (int input = 0; input < 16; input++) {
                b.lock(4, -1);
            }
            for (int input = 0; input < 16; input += 15) {
                b.keyIn(4, input);
                due(b.key(4), input);
                b.keyOut(4);
            }
        });
        says(" INVALID_ARGUMENT if key is out of range;", () -> {
            InterlockBoard b = withLocks();
            b.keyIn(0, 1);
            outOfRange(0, 5, key -> b.key(key));
        });
        says(" NOT_FOUND if it is at hand.", () -> {
            InterlockBoard b = withLocks();
            due(b.key(0), NOT_FOUND);
            due(b.key(5), NOT_FOUND);
            b.keyIn(0, 1);
            b.keyOut(0);
            due(b.key(0), NOT_FOUND);
            b.bridge(1, 1);
            due(b.key(0), NOT_FOUND);
            due(new InterlockBoard().key(0), NOT_FOUND);
        });
    }

    private static void bridge() {
        section("Promise 10: bridge");
        says("`int bridge(int input, int ticks)`: Bridges an input.", () -> {
            InterlockBoard b = withLocks();
            b.bridge(0, 1);
            b.bridge(6, 1);
            due(b.inputInfo(0, 2), 1);
            due(b.inputInfo(6, 2), 1);
            due(b.inputInfo(1, 2), 0);
            due(b.inputInfo(0, 1), 0);
            due(b.inputInfo(6, 1), 0);
        });
        says("`input`: number of the input", () -> {
            InterlockBoard b = withSensors(16);
            due(b.bridge(0, 1), 1);
            due(b.bridge(15, 1), 2);
            due(b.bridged(0), 0);
            due(b.bridged(1), 15);
        });
        says("`ticks`: 1 to 500", () -> {
            InterlockBoard b = withSensors(2);
            due(b.bridge(0, 500), 1);
            due(b.bridge(1, 1), 2);
            b.run(1);
            due(b.count(3), 1);
            b.run(498);
            due(b.count(3), 1);
            b.run(1);
            due(b.count(3), 0);
        });
        says("Returns the number of inputs that are bridged;", () -> {
            InterlockBoard b = withSensors(5);
            due(b.bridge(4, 1), 1);
            due(b.bridge(0, 5), 2);
            due(b.bridge(2, 5), 3);
            b.run(1);
            due(b.bridge(4, 9), 3);
            b.unbridge(0);
            b.unbridge(2);
            due(b.bridge(1, 1), 2);
        });
    }

    private static void bridgeRefused() {
        says(" INVALID_ARGUMENT if an argument is out of range;", () -> {
            InterlockBoard b = withSensors(2);
            outOfRange(0, 1, input -> b.bridge(input, 1));
            outOfRange(1, 500, ticks -> b.bridge(0, ticks));
            due(b.count(3), 0);
        });
        says(" NOT_POSSIBLE if it is essential", () -> {
            InterlockBoard b = withSensors(2);
            b.essential(1, 1);
            due(b.bridge(1, 1), NOT_POSSIBLE);
            due(b.bridge(1, 500), NOT_POSSIBLE);
            due(b.bridge(0, 1), 1);
            b.essential(1, 0);
            due(b.bridge(1, 1), 2);
        });
        says(" or bridged;", () -> {
            InterlockBoard b = withSensors(2);
            b.bridge(1, 2);
            due(b.bridge(1, 2), NOT_POSSIBLE);
            due(b.inputInfo(1, 7), 2);
            b.run(1);
            due(b.bridge(1, 500), NOT_POSSIBLE);
            due(b.inputInfo(1, 7), 1);
            b.run(1);
            due(b.bridge(1, 500), 1);
            b.unbridge(1);
            due(b.bridge(1, 3), 1);
        });
        says(" LIMIT_REACHED if 3 are bridged.", () -> {
            InterlockBoard b = withSensors(4);
            due(b.bridge(0, 9), 1);
            due(b.bridge(1, 9), 2);
            due(b.bridge(2, 9), 3);
            due(b.bridge(3, 1), LIMIT);
            due(b.bridge(3, 500), LIMIT);
            due(b.inputInfo(3, 7), 0);
            b.run(9);
            due(b.bridge(3, 1), 1);
        });
    }

    private static void unbridge() {
        section("Promise 11: unbridge");
        says("`int unbridge(int input)`: Takes the bridge of an input away.", () -> {
            InterlockBoard b = withSensors(3);
            b.bridge(0, 500);
            b.bridge(2, 500);
            b.run(1);
            b.unbridge(2);
            due(b.inputInfo(2, 7), 0);
            due(b.inputInfo(2, 2), 0);
            due(b.inputInfo(0, 7), 499);
            due(b.count(3), 1);
        });
        says("`input`: number of the input", () -> {
            InterlockBoard b = withSensors(16);
            b.bridge(0, 1);
            b.bridge(15, 1);
            due(b.unbridge(15), 0);
            due(b.unbridge(0), 0);
            due(b.count(3), 0);
        });
        says("Returns how many motions are stopped by this;", () -> {
            InterlockBoard b = withSensors(1);
            b.bridge(0, 9);
            for (int motion = 0; motion < 6; motion++) {
                b.row(motion, 1);
                b.start(motion);
            }
            b.input(0, 1);
            due(b.unbridge(0), 0);
            b.bridge(0, 9);
            b.input(0, 0);
            due(b.unbridge(0), 6);
            due(b.count(7), 6);
            b.bridge(0, 9);
            due(b.unbridge(0), 0);
        });
        says(" INVALID_ARGUMENT;", () -> {
            InterlockBoard b = withSensors(2);
            b.bridge(0, 9);
            outOfRange(0, 1, input -> b.unbridge(input));
            due(b.count(3), 1);
        });
        says(" NOT_POSSIBLE if it is not bridged.", () -> {
            InterlockBoard b = closedSensors(2);
            due(b.unbridge(0), NOT_POSSIBLE);
            b.bridge(0, 1);
            due(b.unbridge(1), NOT_POSSIBLE);
            b.run(1);
            due(b.unbridge(0), NOT_POSSIBLE);
            b.bridge(0, 500);
            due(b.unbridge(0), 0);
            due(b.unbridge(0), NOT_POSSIBLE);
        });
    }

    private static void bridged() {
        section("Promise 12: bridged");
        says("`int bridged(int place)`: Returns a bridged input, in the order in which the bridges end.", () -> {
            InterlockBoard b = withSensors(16);
            b.bridge(15, 3);
            b.run(1);
            b.bridge(0, 4);
            b.bridge(9, 1);
            due(b.bridged(0), 9);
            due(b.bridged(1), 15);
            due(b.bridged(2), 0);
            b.run(1);
            due(b.bridged(0), 15);
            due(b.bridged(1), 0);
            b.run(1);
            due(b.bridged(0), 0);
        });
        says("`place`: 0 for the one that ends first, and so on;", () -> {
            InterlockBoard b = withSensors(3);
            b.bridge(0, 500);
            b.bridge(1, 499);
            b.bridge(2, 498);
            due(b.bridged(0), 2);
            due(b.bridged(1), 1);
            due(b.bridged(2), 0);
        });
        says(" of those that end together the least number first", () -> {
            InterlockBoard b = withSensors(16);
            b.bridge(15, 2);
            b.run(1);
            b.bridge(7, 1);
            b.bridge(0, 1);
            due(b.bridged(0), 0);
            due(b.bridged(1), 7);
            due(b.bridged(2), 15);
        });
        says("Returns the input;", () -> {
            InterlockBoard b = withSensors(16);
            for (int input = 0; input < 16; input += 15) {
                b.bridge(input, 1);
                due(b.bridged(0), input);
                b.unbridge(input);
            }
        });
        says(" INVALID_ARGUMENT if place is negative;", () -> {
            InterlockBoard b = withSensors(3);
            due(b.bridged(-1), INVALID);
            for (int input = 0; input < 3; input++) {
                b.bridge(input, 1);
            }
            due(b.bridged(-1), INVALID);
            due(b.bridged(-65536), INVALID);
            due(b.bridged(Integer.MIN_VALUE), INVALID);
            due(b.bridged(Integer.MIN_VALUE + 1), INVALID);
        });
        says(" NOT_FOUND if there are not so many.", () -> {
            InterlockBoard b = withSensors(3);
            for (int bridges = 0; bridges <= 3; bridges++) {
                due(b.bridged(bridges), NOT_FOUND);
                due(b.bridged(bridges + 1), NOT_FOUND);
                due(b.bridged(32), NOT_FOUND);
                due(b.bridged(65536), NOT_FOUND);
                due(b.bridged(Integer.MAX_VALUE), NOT_FOUND);
                b.bridge(bridges, 1);
            }
            b.run(1);
            due(b.bridged(0), NOT_FOUND);
        });
    }
}
