/** Promises 1 to 6: a new object, sensor, lock, essential, input, inputInfo. */
final class InputsSentences extends Sentences {
    static void test() {
        newObject();
        sensors();
        locks();
        essentials();
        sensorCalls();
        propertiesOfState();
        propertiesOfTime();
        propertiesOfLocks();
    }

    private static void newObject() {
        section("Promise 1: A new object");
        says("`InterlockBoard()`: Creates a board without inputs and rows.", () -> {
            InterlockBoard b = new InterlockBoard();
            due(b.inputInfo(0, 0), INVALID);
            for (int motion = 0; motion < 6; motion++) {
                due(b.motion(motion, 0), 0);
                due(b.motion(motion, 8), NOT_FOUND);
                due(b.motion(motion, 12), 0);
            }
            for (int what = 0; what <= 16; what++) {
                due(b.count(what), 0);
            }
            b.sensor(1);
            due(new InterlockBoard().count(0), 0);
        });
    }

    private static void sensors() {
        section("Promise 2: sensor");
        says("`int sensor(int interval)`: Adds a sensor, open.", () -> {
            InterlockBoard b = new InterlockBoard();
            for (int number = 0; number < 16; number++) {
                b.sensor(number);
                due(b.count(0), number + 1);
                due(b.inputInfo(number, 0), 0);
                due(b.inputInfo(number, 1), 0);
            }
        });
        says("`interval`: 0 to 5000", () -> {
            InterlockBoard b = new InterlockBoard();
            due(b.sensor(0), 0);
            due(b.sensor(1), 1);
            due(b.sensor(4999), 2);
            due(b.sensor(5000), 3);
            due(b.inputInfo(3, 5), 5000);
        });
        says("Returns the number of the input;", () -> {
            InterlockBoard b = withSensors(15);
            due(b.sensor(7), 15);
            b.undo();
            due(b.sensor(8), 15);
            due(b.inputInfo(15, 5), 8);
        });
        says(" INVALID_ARGUMENT if interval is out of range;", () -> {
            InterlockBoard b = new InterlockBoard();
            outOfRange(0, 5000, interval -> b.sensor(interval));
            due(b.count(0), 0);
        });
        says(" LIMIT_REACHED if there are 16 inputs.", () -> {
            InterlockBoard b = withSensors(15);
            due(b.sensor(0), 15);
            due(b.sensor(0), LIMIT);
            due(b.sensor(5000), LIMIT);
            due(b.sensor(5001), INVALID);
            due(b.sensor(-1), INVALID);
            b.undo();
            due(b.sensor(5000), 15);
        });
    }

    private static void locks() {
        section("Promise 3: lock");
        says("`int lock(int key, int guard)`: Adds a lock, open, which needs no tests.", () -> {
            InterlockBoard b = new InterlockBoard();
            b.lock(0, -1);
            b.keyIn(0, 0);
            b.lock(0, 0);
            due(b.count(0), 2);
            due(b.inputInfo(1, 0), 1);
            due(b.inputInfo(1, 1), 0);
            due(b.inputInfo(1, 5), 0);
            runTicks(b, 100000);
            due(b.inputInfo(0, 4), 0);
            due(b.inputInfo(0, 2), 1);
        });
        says("`key`: 0 to 5: the key for which it is made", () -> {
            InterlockBoard b = new InterlockBoard();
            due(b.lock(0, -1), 0);
            due(b.lock(5, -1), 1);
            due(b.keyIn(5, 1), 1);
            due(b.keyIn(0, 0), 2);
        });
        says("`guard`: number of an input, or -1 for none", () -> {
            InterlockBoard b = withSensors(14);
            due(b.lock(1, -1), 14);
            due(b.lock(0, 13), 15);
            due(b.inputInfo(14, 11), NOT_FOUND);
            due(b.inputInfo(15, 11), 13);
            b.undo();
            due(b.lock(0, 0), 15);
            due(b.inputInfo(15, 11), 0);
            b.undo();
            due(b.lock(0, 14), 15);
            due(b.inputInfo(15, 11), 14);
        });
        says("Returns the number of the input;", () -> {
            InterlockBoard b = new InterlockBoard();
            for (int number = 0; number < 16; number++) {
                due(b.lock(number % 6, number - 1), number);
            }
        });
        says(" INVALID_ARGUMENT if an argument is out of range;", () -> {
            InterlockBoard b = withSensors(3);
            outOfRange(0, 5, key -> b.lock(key, -1));
            outOfRange(-1, 2, guard -> b.lock(0, guard));
            due(b.count(0), 3);
            outOfRange(-1, -1, guard -> new InterlockBoard().lock(5, guard));
        });
        says(" LIMIT_REACHED if there are 16 inputs.", () -> {
            InterlockBoard b = withSensors(15);
            due(b.lock(0, 14), 15);
            due(b.lock(0, -1), LIMIT);
            due(b.lock(5, 15), LIMIT);
            due(b.lock(5, 16), INVALID);
            due(b.lock(6, -1), INVALID);
        });
    }

    private static void essentials() {
        section("Promise 4: essential");
        says("`int essential(int input, int is)`: Makes an input essential, or not.", () -> {
            InterlockBoard b = withSensors(16);
            b.essential(0, 1);
            b.essential(15, 1);
            for (int input = 0; input < 16; input++) {
                due(b.inputInfo(input, 3), input % 15 == 0 ? 1 : 0);
            }
            b.essential(15, 0);
            due(b.inputInfo(0, 3), 1);
            due(b.inputInfo(15, 3), 0);
            due(b.bridge(15, 1), 1);
        });
        says("`input`: number of the input", () -> {
            InterlockBoard b = withLocks();
            due(b.essential(0, 1), 0);
            due(b.essential(6, 1), 0);
        });
        says("`is`: 1 or 0", () -> {
            InterlockBoard b = withSensors(1);
            due(b.essential(0, 0), 0);
            due(b.essential(0, 1), 0);
        });
        says("Returns 1 if it was, otherwise 0;", () -> {
            InterlockBoard b = withSensors(2);
            due(b.essential(1, 1), 0);
            due(b.essential(1, 1), 1);
            due(b.essential(0, 1), 0);
            due(b.essential(1, 0), 1);
            due(b.essential(1, 0), 0);
        });
        says(" INVALID_ARGUMENT if an argument is out of range;", () -> {
            InterlockBoard b = withSensors(2);
            outOfRange(0, 1, input -> b.essential(input, 1));
            outOfRange(0, 1, input -> b.essential(input, 0));
            outOfRange(0, 1, is -> b.essential(0, is));
            due(b.inputInfo(0, 3), 0);
        });
        says(" NOT_POSSIBLE if is is 1 and it is bridged.", () -> {
            InterlockBoard b = withSensors(2);
            b.bridge(1, 2);
            due(b.essential(1, 1), NOT_POSSIBLE);
            due(b.essential(1, 0), 0);
            due(b.essential(0, 1), 0);
            b.run(1);
            due(b.essential(1, 1), NOT_POSSIBLE);
            b.run(1);
            due(b.essential(1, 1), 0);
        });
    }

    private static void sensorCalls() {
        section("Promise 5: input");
        says("`int input(int input, int closed)`: Opens or closes a sensor (also if it is so already).", () -> {
            InterlockBoard b = withSensors(2);
            int[] calls = {0, 1, 1, 0, 0, 1};
            for (int closed : calls) {
                due(b.input(1, closed), 0);
                due(b.inputInfo(1, 1), closed);
                due(b.inputInfo(0, 1), 0);
            }
        });
        says("`input`: number of the input", () -> {
            InterlockBoard b = withSensors(16);
            due(b.input(0, 1), 0);
            due(b.input(15, 1), 0);
            due(b.inputInfo(0, 1), 1);
            due(b.inputInfo(15, 1), 1);
            due(b.count(1), 2);
        });
        says("`closed`: 1 to close it, 0 to open it", () -> {
            InterlockBoard b = withSensors(1);
            b.input(0, 1);
            due(b.inputInfo(0, 1), 1);
            b.input(0, 0);
            due(b.inputInfo(0, 1), 0);
        });
        says("Returns how many motions are stopped by this;", () -> {
            InterlockBoard b = running(0, 1, 2, 3, 4, 5);
            due(b.input(0, 1), 0);
            due(b.input(0, 0), 6);
            due(b.input(0, 0), 0);
            due(b.input(0, 1), 0);
            InterlockBoard bridged = running(0);
            bridged.bridge(0, 1);
            due(bridged.input(0, 0), 0);
        });
        says(" INVALID_ARGUMENT if an argument is out of range;", () -> {
            InterlockBoard b = running(0);
            outOfRange(0, 0, input -> b.input(input, 0));
            outOfRange(0, 1, closed -> b.input(0, closed));
            due(b.count(5), 1);
        });
        says(" NOT_POSSIBLE if it is a lock.", () -> {
            InterlockBoard b = withLocks();
            b.keyIn(5, 6);
            due(b.input(1, 0), NOT_POSSIBLE);
            due(b.input(1, 1), NOT_POSSIBLE);
            due(b.input(6, 0), NOT_POSSIBLE);
            due(b.input(6, 1), NOT_POSSIBLE);
            due(b.inputInfo(1, 1), 0);
            due(b.inputInfo(6, 1), 1);
        });
    }

    private static void propertiesOfState() {
        section("Promise 6: inputInfo");
        tellsNoBoundary("`int inputInfo(int input, int what)`: Returns a property of an input.");
        says("`input`: number of the input", () -> {
            InterlockBoard b = new InterlockBoard();
            for (int input = 0; input < 16; input++) {
                b.sensor(100 + input);
                due(b.inputInfo(input, 5), 100 + input);
            }
            due(b.inputInfo(0, 5), 100);
        });
        says("`what`: 0: 0 sensor, 1 lock;", () -> {
            InterlockBoard b = withLocks();
            for (int input = 0; input < 7; input++) {
                due(b.inputInfo(input, 0), input == 0 ? 0 : 1);
            }
        });
        says(" 1: 1 if it is closed, otherwise 0;", () -> {
            InterlockBoard b = new InterlockBoard();
            b.sensor(1);
            b.sensor(1);
            b.input(0, 1);
            b.bridge(1, 9);
            b.run(2);
            due(b.inputInfo(0, 1), 1);
            due(b.inputInfo(1, 1), 0);
        });
        says(" 2: 1 if it counts as closed, otherwise 0;", () -> {
            InterlockBoard b = new InterlockBoard();
            b.sensor(1);
            b.sensor(1);
            b.input(0, 1);
            b.bridge(1, 9);
            b.run(1);
            due(b.inputInfo(0, 2), 1);
            b.run(1);
            due(b.inputInfo(0, 2), 0);
            due(b.inputInfo(1, 2), 1);
        });
        says(" 3: 1 if it is essential, otherwise 0;", () -> {
            InterlockBoard b = withSensors(2);
            b.essential(0, 1);
            due(b.inputInfo(0, 3), 1);
            due(b.inputInfo(1, 3), 0);
        });
        says(" 4: 1 if it is overdue, otherwise 0;", () -> {
            InterlockBoard b = new InterlockBoard();
            b.sensor(499);
            b.sensor(500);
            b.sensor(0);
            b.run(500);
            due(b.inputInfo(0, 4), 1);
            due(b.inputInfo(1, 4), 0);
            due(b.inputInfo(2, 4), 0);
            b.bridge(0, 1);
            due(b.inputInfo(0, 4), 1);
        });
        says(" 5: its interval;", () -> {
            InterlockBoard b = new InterlockBoard();
            b.sensor(0);
            b.sensor(5000);
            b.lock(0, -1);
            b.run(500);
            due(b.inputInfo(0, 5), 0);
            due(b.inputInfo(1, 5), 5000);
            due(b.inputInfo(2, 5), 0);
        });
    }

    private static void propertiesOfTime() {
        says(" 6: the tick in which it was tested latest;", () -> {
            InterlockBoard b = new InterlockBoard();
            b.sensor(0);
            b.run(500);
            b.sensor(0);
            b.input(0, 1);
            due(b.inputInfo(0, 6), 0);
            due(b.inputInfo(1, 6), 500);
            for (int time = 1; time <= 2; time++) {
                b.test(0);
                b.input(0, 0);
                b.run(3);
                b.input(0, 1);
                due(b.inputInfo(0, 6), 500 + 3 * time);
            }
        });
        says(" 7: ticks for which it is still bridged, 0 if it is not;", () -> {
            InterlockBoard b = withSensors(2);
            due(b.inputInfo(0, 7), 0);
            b.bridge(0, 2);
            b.bridge(1, 500);
            due(b.inputInfo(0, 7), 2);
            due(b.inputInfo(1, 7), 500);
            b.run(1);
            due(b.inputInfo(0, 7), 1);
            b.run(1);
            due(b.inputInfo(0, 7), 0);
            b.run(1);
            due(b.inputInfo(0, 7), 0);
            due(b.inputInfo(1, 7), 497);
            b.unbridge(1);
            due(b.inputInfo(1, 7), 0);
        });
        says(" 8: bridged ticks in all;", () -> {
            InterlockBoard b = withSensors(2);
            due(b.inputInfo(0, 8), 0);
            b.bridge(0, 3);
            due(b.inputInfo(0, 8), 0);
            b.run(5);
            due(b.inputInfo(0, 8), 3);
            b.bridge(0, 500);
            b.run(2);
            due(b.inputInfo(0, 8), 5);
            b.unbridge(0);
            b.run(2);
            due(b.inputInfo(0, 8), 5);
            due(b.inputInfo(1, 8), 0);
        });
        says(" 9: 0 if no test goes on, 1 if one was begun, 2 if the sensor was opened in it;", () -> {
            InterlockBoard b = withLocks();
            due(b.inputInfo(0, 9), 0);
            due(b.inputInfo(6, 9), 0);
            b.input(0, 1);
            b.input(0, 0);
            b.input(0, 1);
            due(b.inputInfo(0, 9), 0);
            b.test(0);
            due(b.inputInfo(0, 9), 1);
            b.input(0, 0);
            due(b.inputInfo(0, 9), 2);
            b.input(0, 1);
            due(b.inputInfo(0, 9), 0);
            b.test(0);
            b.run(21);
            due(b.inputInfo(0, 9), 0);
        });
    }

    private static void propertiesOfLocks() {
        says(" 10: the key of the lock;", () -> {
            InterlockBoard b = withLocks();
            b.keyIn(5, 6);
            for (int key = 0; key < 6; key++) {
                due(b.inputInfo(key + 1, 10), key);
            }
        });
        says(" 11: its guard", () -> {
            InterlockBoard b = new InterlockBoard();
            b.sensor(0);
            for (int lock = 1; lock < 16; lock++) {
                b.lock(2, lock - 1);
                due(b.inputInfo(lock, 11), lock - 1);
            }
        });
        says("Returns the property;", () -> {
            InterlockBoard b = new InterlockBoard();
            b.run(4);
            b.lock(3, -1);
            b.lock(5, 0);
            b.keyIn(5, 1);
            b.bridge(1, 7);
            b.run(1);
            int[] due = {1, 1, 1, 0, 0, 0, 4, 6, 1, 0, 5, 0};
            for (int what = 0; what <= 11; what++) {
                due(b.inputInfo(1, what), due[what]);
            }
        });
        says(" INVALID_ARGUMENT if an argument is out of range;", () -> {
            InterlockBoard b = withSensors(16);
            outOfRange(0, 11, what -> b.inputInfo(15, what));
            for (int what = 0; what <= 11; what++) {
                int asked = what;
                outOfRange(0, 15, input -> b.inputInfo(input, asked));
            }
        });
        says(" NOT_FOUND for 10 of a sensor,", () -> {
            InterlockBoard b = withLocks();
            due(b.inputInfo(0, 10), NOT_FOUND);
            due(b.inputInfo(1, 10), 0);
        });
        says(" for 11 if there is no guard.", () -> {
            InterlockBoard b = withLocks();
            b.lock(0, 0);
            due(b.inputInfo(0, 11), NOT_FOUND);
            due(b.inputInfo(6, 11), NOT_FOUND);
            due(b.inputInfo(7, 11), 0);
        });
    }
}
