/** The section "Terms", but for changes and errors. */
final class TermsSentences extends Sentences {
    static void test() {
        section("Terms");
        tellsNoBoundary("All numbers are whole numbers.");
        inputs();
        overdue();
        keys();
        bridges();
        motions();
        whyNot();
        stopping();
        tests();
        ticks();
        texts();
        faults();
    }

    private static void inputs() {
        section("Inputs");
        says("There are at most 16 inputs, numbered from 0.", () -> {
            InterlockBoard b = new InterlockBoard();
            for (int number = 0; number < 16; number++) {
                due(number % 3 == 2 ? b.lock(number % 6, -1) : b.sensor(number), number);
                due(b.count(0), number + 1);
            }
            due(b.sensor(0), LIMIT);
            due(b.lock(0, -1), LIMIT);
            due(b.count(0), 16);
            due(b.inputInfo(0, 5), 0);
            due(b.inputInfo(15, 5), 15);
            due(b.inputInfo(16, 5), INVALID);
        });
        says("An input is a sensor, or the lock of a key, and is open (initially) or closed.", () -> {
            InterlockBoard b = new InterlockBoard();
            b.sensor(0);
            b.lock(3, -1);
            b.keyIn(3, 1);
            b.lock(3, -1);
            due(b.inputInfo(0, 0), 0);
            due(b.inputInfo(2, 0), 1);
            due(b.inputInfo(0, 1), 0);
            due(b.inputInfo(1, 1), 1);
            due(b.inputInfo(2, 1), 0);
            b.input(0, 1);
            due(b.inputInfo(0, 1), 1);
        });
        says("A sensor is opened and closed by a call;", () -> {
            InterlockBoard b = withSensors(16);
            for (int sensor = 0; sensor < 16; sensor += 15) {
                b.input(sensor, 1);
                due(b.inputInfo(sensor, 1), 1);
                due(b.count(1), 1);
                b.run(500);
                due(b.inputInfo(sensor, 1), 1);
                b.input(sensor, 0);
                due(b.inputInfo(sensor, 1), 0);
                due(b.count(1), 0);
            }
        });
        says("a lock is closed as long as its key is in it.", () -> {
            InterlockBoard b = new InterlockBoard();
            b.lock(0, -1);
            b.lock(0, -1);
            b.keyIn(0, 0);
            due(b.inputInfo(0, 1), 1);
            due(b.inputInfo(1, 1), 0);
            runTicks(b, 6000);
            due(b.inputInfo(0, 1), 1);
            b.keyOut(0);
            due(b.inputInfo(0, 1), 0);
            b.keyIn(0, 1);
            due(b.inputInfo(0, 1), 0);
            due(b.inputInfo(1, 1), 1);
        });
        says("An input can be essential.", () -> {
            InterlockBoard b = withLocks();
            for (int input = 0; input < 7; input++) {
                due(b.inputInfo(input, 3), 0);
                b.essential(input, 1);
                due(b.inputInfo(input, 3), 1);
            }
        });
        says("It has an interval (0 to 5000 ticks; 0: it needs no tests)", () -> {
            InterlockBoard b = new InterlockBoard();
            due(b.sensor(0), 0);
            due(b.sensor(5000), 1);
            due(b.lock(0, -1), 2);
            due(b.sensor(-1), INVALID);
            due(b.sensor(5001), INVALID);
            due(b.inputInfo(0, 5), 0);
            due(b.inputInfo(1, 5), 5000);
            due(b.inputInfo(2, 5), 0);
            runTicks(b, 100000);
            due(b.inputInfo(0, 4), 0);
            due(b.inputInfo(1, 4), 1);
            due(b.inputInfo(2, 4), 0);
        });
        says(", and a tick in which it was tested latest, at first that in which it was added.", () -> {
            InterlockBoard b = new InterlockBoard();
            b.sensor(0);
            b.run(7);
            b.sensor(9);
            b.lock(0, 0);
            due(b.inputInfo(0, 6), 0);
            due(b.inputInfo(1, 6), 7);
            due(b.inputInfo(2, 6), 7);
            b.input(1, 1);
            b.test(1);
            b.input(1, 0);
            b.run(2);
            due(b.inputInfo(1, 6), 7);
            b.input(1, 1);
            due(b.inputInfo(1, 6), 9);
            b.run(1);
            due(b.inputInfo(1, 6), 9);
            due(b.inputInfo(2, 6), 7);
        });
    }

    private static void overdue() {
        says("It is overdue if its interval is above 0,", () -> {
            InterlockBoard b = new InterlockBoard();
            b.sensor(0);
            b.sensor(1);
            b.lock(0, -1);
            runTicks(b, 5001);
            due(b.inputInfo(0, 4), 0);
            due(b.inputInfo(1, 4), 1);
            due(b.inputInfo(2, 4), 0);
            due(b.count(2), 1);
        });
        says(" and more ticks than its interval (equally many: not yet) have gone by since it was tested.",
                () -> {
            InterlockBoard b = new InterlockBoard();
            b.sensor(1);
            b.sensor(5000);
            b.run(1);
            due(b.inputInfo(0, 4), 0);
            b.run(1);
            due(b.inputInfo(0, 4), 1);
            runTicks(b, 4998);
            due(b.count(8), 5000);
            due(b.inputInfo(1, 4), 0);
            b.run(1);
            due(b.inputInfo(1, 4), 1);
            b.input(0, 1);
            b.test(0);
            b.input(0, 0);
            b.input(0, 1);
            due(b.inputInfo(0, 4), 0);
            b.run(1);
            due(b.inputInfo(0, 4), 0);
            b.run(1);
            due(b.inputInfo(0, 4), 1);
            b.sensor(1);
            b.run(1);
            due(b.inputInfo(2, 4), 0);
            b.run(1);
            due(b.inputInfo(2, 4), 1);
        });
        says("An input counts as closed if it is bridged, or if it is closed and not overdue; "
                + "otherwise it counts as open.", () -> {
            InterlockBoard b = new InterlockBoard();
            int[] intervals = {0, 0, 1, 1, 0, 1, 1};
            for (int interval : intervals) {
                b.sensor(interval);
            }
            int[] closed = {1, 2, 3, 6};
            for (int sensor : closed) {
                b.input(sensor, 1);
            }
            b.run(1);
            due(b.inputInfo(2, 2), 1);
            b.run(1);
            b.bridge(4, 1);
            b.bridge(5, 1);
            b.bridge(6, 1);
            int[] counting = {0, 1, 0, 0, 1, 1, 1};
            for (int sensor = 0; sensor < counting.length; sensor++) {
                due(b.inputInfo(sensor, 2), counting[sensor]);
            }
            due(b.count(1), 4);
            b.run(1);
            due(b.count(1), 1);
        });
    }

    private static void keys() {
        section("Keys");
        says("There are 6 keys, 0 to 5.", () -> {
            InterlockBoard b = withLocks();
            for (int key = 0; key < 6; key++) {
                due(b.keyIn(key, key + 1), key + 1);
                due(b.key(key), key + 1);
            }
            due(b.count(4), 6);
            outOfRange(0, 5, key -> b.key(key));
            outOfRange(0, 5, key -> b.lock(key, -1));
        });
        says("A key is at hand (initially) or in a lock.", () -> {
            InterlockBoard b = withLocks();
            for (int key = 0; key < 6; key++) {
                due(b.key(key), NOT_FOUND);
            }
            b.keyIn(5, 6);
            due(b.key(5), 6);
            due(b.key(4), NOT_FOUND);
            b.keyOut(5);
            due(b.key(5), NOT_FOUND);
        });
        says("A lock is made for one key,", () -> {
            InterlockBoard b = withLocks();
            for (int key = 0; key < 6; key++) {
                due(b.inputInfo(key + 1, 10), key);
                due(b.keyIn(key, (key + 1) % 6 + 1), NOT_POSSIBLE);
            }
            due(b.count(4), 0);
        });
        says(" and each key can have several locks.", () -> {
            InterlockBoard b = new InterlockBoard();
            for (int input = 0; input < 16; input++) {
                due(b.lock(5, -1), input);
            }
            for (int input = 0; input < 16; input++) {
                due(b.keyIn(5, input), 1);
                due(b.key(5), input);
                due(b.count(1), 1);
                due(b.keyOut(5), 0);
            }
        });
        says("A lock has a guard, an input with a lower number, or none:", () -> {
            InterlockBoard b = new InterlockBoard();
            due(b.lock(0, 0), INVALID);
            due(b.lock(0, -1), 0);
            due(b.lock(1, 1), INVALID);
            due(b.lock(1, 2), INVALID);
            due(b.lock(1, 0), 1);
            due(b.lock(2, 1), 2);
            due(b.inputInfo(0, 11), NOT_FOUND);
            due(b.inputInfo(1, 11), 0);
            due(b.inputInfo(2, 11), 1);
        });
        says(" its key can be taken out only if the guard counts as closed.", () -> {
            InterlockBoard b = new InterlockBoard();
            b.sensor(1);
            b.lock(0, 0);
            b.lock(1, -1);
            b.keyIn(0, 1);
            b.keyIn(1, 2);
            due(b.keyOut(1), 0);
            due(b.keyOut(0), NOT_POSSIBLE);
            b.input(0, 1);
            due(b.keyOut(0), 0);
            b.keyIn(0, 1);
            b.run(2);
            due(b.inputInfo(0, 1), 1);
            due(b.keyOut(0), NOT_POSSIBLE);
            b.bridge(0, 1);
            due(b.keyOut(0), 0);
            b.keyIn(0, 1);
            b.run(1);
            due(b.keyOut(0), NOT_POSSIBLE);
        });
    }

    private static void bridges() {
        section("Bridges");
        says("An input that is not essential can be bridged", () -> {
            InterlockBoard b = withLocks();
            b.essential(0, 1);
            b.essential(1, 1);
            due(b.bridge(0, 1), NOT_POSSIBLE);
            due(b.bridge(1, 1), NOT_POSSIBLE);
            due(b.bridge(2, 1), 1);
            b.essential(0, 0);
            due(b.bridge(0, 1), 2);
        });
        says(" for some ticks (1 to 500);", () -> {
            InterlockBoard b = withSensors(2);
            outOfRange(1, 500, ticks -> b.bridge(0, ticks));
            due(b.bridge(0, 1), 1);
            due(b.bridge(1, 500), 2);
            due(b.inputInfo(0, 7), 1);
            due(b.inputInfo(1, 7), 500);
        });
        says(" it is bridged until so many ticks have gone by,", () -> {
            InterlockBoard b = withSensors(2);
            b.bridge(0, 1);
            b.bridge(1, 500);
            b.run(1);
            due(b.inputInfo(0, 2), 0);
            due(b.count(3), 1);
            b.run(498);
            due(b.inputInfo(1, 7), 1);
            due(b.inputInfo(1, 2), 1);
            b.run(1);
            due(b.inputInfo(1, 7), 0);
            due(b.inputInfo(1, 2), 0);
            due(b.count(3), 0);
        });
        says(" or the bridge is taken away.", () -> {
            InterlockBoard b = withSensors(1);
            b.bridge(0, 500);
            b.unbridge(0);
            due(b.inputInfo(0, 7), 0);
            due(b.inputInfo(0, 2), 0);
            due(b.count(3), 0);
            b.run(1);
            due(b.inputInfo(0, 8), 0);
        });
        says("At most 3 inputs are bridged at a time.", () -> {
            InterlockBoard b = withSensors(16);
            due(b.bridge(15, 2), 1);
            due(b.bridge(0, 1), 2);
            due(b.bridge(7, 2), 3);
            due(b.bridge(8, 1), LIMIT);
            due(b.count(3), 3);
            b.unbridge(15);
            due(b.bridge(8, 2), 3);
            due(b.bridge(9, 1), LIMIT);
            b.run(1);
            due(b.bridge(9, 1), 3);
            due(b.bridge(10, 1), LIMIT);
        });
    }

    private static void motions() {
        section("Motions");
        says("There are 6 motions, 0 to 5.", () -> {
            InterlockBoard b = running(0, 1, 2, 3, 4, 5);
            due(b.count(5), 6);
            due(b.motion(0, 2), 1);
            due(b.motion(5, 2), 1);
            outOfRange(0, 5, motion -> b.motion(motion, 2));
            outOfRange(0, 5, motion -> b.row(motion, 1));
        });
        says("A motion has at most 4 rows, initially none;", () -> {
            InterlockBoard b = withSensors(1);
            for (int motion = 0; motion < 6; motion++) {
                due(b.motion(motion, 0), 0);
                for (int rows = 1; rows <= 4; rows++) {
                    due(b.row(motion, 1), rows);
                    due(b.motion(motion, 0), rows);
                }
                due(b.row(motion, 1), LIMIT);
                due(b.motion(motion, 0), 4);
            }
        });
        says(" a row is a set of inputs, not empty.", () -> {
            InterlockBoard b = withSensors(16);
            due(b.row(0, 0), INVALID);
            for (int input = 0; input < 16; input += 5) {
                due(b.row(0, 1 << input), input / 5 + 1);
                due(b.motion(0, 8 + input / 5), 1 << input);
            }
            due(b.row(1, 0xffff), 1);
            due(b.motion(1, 8), 0xffff);
        });
        says("A motion is permitted if it has a row all of whose inputs count as closed.", () -> {
            InterlockBoard b = withSensors(4);
            due(b.motion(0, 1), 0);
            b.row(0, 0b1000);
            b.row(0, 0b0011);
            due(b.motion(0, 1), 0);
            b.input(0, 1);
            b.input(2, 1);
            due(b.motion(0, 1), 0);
            b.bridge(1, 1);
            due(b.motion(0, 1), 1);
            b.run(1);
            due(b.motion(0, 1), 0);
            b.input(3, 1);
            due(b.motion(0, 1), 1);
            b.dropRows(0);
            due(b.motion(0, 1), 0);
        });
        says("Two motions can exclude each other.", () -> {
            InterlockBoard b = running();
            b.row(0, 1);
            b.row(5, 1);
            b.exclude(0, 5, 1);
            due(b.motion(0, 12), 0b100000);
            due(b.motion(5, 12), 0b000001);
            b.start(5);
            due(b.start(0), NOT_POSSIBLE);
            b.stop(5);
            due(b.start(0), 1);
            due(b.start(5), NOT_POSSIBLE);
        });
        says("A motion rests (initially) or runs.", () -> {
            InterlockBoard b = running();
            b.row(3, 1);
            due(b.motion(3, 2), 0);
            due(b.count(5), 0);
            b.start(3);
            due(b.motion(3, 2), 1);
            due(b.count(5), 1);
            b.stop(3);
            due(b.motion(3, 2), 0);
        });
        says("It can have an input that was first out, initially none.", () -> {
            InterlockBoard b = running(0, 5);
            due(b.motion(0, 3), NOT_FOUND);
            due(b.count(7), 0);
            b.input(0, 0);
            due(b.motion(0, 3), 0);
            due(b.motion(5, 3), 0);
            due(b.motion(1, 3), NOT_FOUND);
            due(b.count(7), 2);
        });
    }

    private static void whyNot() {
        says("A motion cannot be started for the reason 1 if it runs,", () -> {
            InterlockBoard b = running(0);
            due(b.why(0), 1);
            due(b.start(0), NOT_POSSIBLE);
        });
        says(" 2 if it has an input that was first out,", () -> {
            InterlockBoard b = running(0);
            b.input(0, 0);
            b.input(0, 1);
            due(b.why(0), 2);
            due(b.start(0), NOT_POSSIBLE);
        });
        says(" 3 if it is not permitted,", () -> {
            InterlockBoard b = withSensors(1);
            due(b.why(0), 3);
            due(b.start(0), NOT_POSSIBLE);
            b.row(0, 1);
            due(b.why(0), 3);
            due(b.start(0), NOT_POSSIBLE);
        });
        says(" 4 if a motion runs that excludes it;", () -> {
            InterlockBoard b = running(4);
            b.row(0, 1);
            b.exclude(0, 3, 1);
            due(b.why(0), 0);
            b.exclude(0, 4, 1);
            due(b.why(0), 4);
            due(b.start(0), NOT_POSSIBLE);
            b.stop(4);
            due(b.why(0), 0);
            due(b.start(0), 1);
        });
        says(" the first one of these that applies.", () -> {
            InterlockBoard b = closedSensors(2);
            b.row(0, 0b01);
            b.row(1, 0b10);
            b.start(0);
            b.start(1);
            due(b.why(0), 1);
            b.input(0, 0);
            b.exclude(0, 1, 1);
            due(b.why(0), 2);
            b.reset(0);
            due(b.why(0), 3);
            b.input(0, 1);
            due(b.why(0), 4);
            b.stop(1);
            due(b.why(0), 0);
        });
    }

    private static void stopping() {
        says("Whenever something has changed by a call", () -> {
            InterlockBoard b = new InterlockBoard();
            b.sensor(0);
            b.lock(0, -1);
            b.sensor(0);
            b.input(0, 1);
            b.keyIn(0, 1);
            b.bridge(2, 9);
            for (int motion = 0; motion < 3; motion++) {
                b.row(motion, 1 << motion);
                b.start(motion);
            }
            due(b.input(0, 0), 1);
            due(b.motion(0, 2), 0);
            due(b.keyOut(0), 1);
            due(b.motion(1, 2), 0);
            due(b.unbridge(2), 1);
            due(b.motion(2, 2), 0);
        });
        says(" (by restore and undo none is stopped),", () -> {
            InterlockBoard b = running(0, 1);
            b.snapshot(0);
            due(b.input(0, 0), 2);
            due(b.restore(0), 0);
            due(b.count(5), 2);
            due(b.count(11), 0);
            due(b.undo(), 3);
            due(b.count(5), 0);
            due(b.undo(), 2);
            due(b.count(5), 2);
            due(b.count(7), 0);
        });
        says(" and at each tick,", () -> {
            InterlockBoard b = new InterlockBoard();
            b.sensor(1);
            b.sensor(2);
            for (int sensor = 0; sensor < 2; sensor++) {
                b.input(sensor, 1);
                b.row(sensor, 1 << sensor);
                b.start(sensor);
            }
            due(b.run(9), 2);
            due(b.motion(0, 4), 2);
            due(b.motion(1, 4), 3);
        });
        says(" the motions that run are looked at in ascending order: "
                + "one that is not permitted any more is stopped,", () -> {
            InterlockBoard b = closedSensors(2);
            for (int motion = 0; motion < 6; motion++) {
                b.row(motion, 0b10);
                if (motion % 2 == 0) {
                    b.row(motion, 0b01);
                }
                if (motion != 1) {
                    b.start(motion);
                }
            }
            due(b.input(1, 0), 2);
            int[] runs = {1, 0, 1, 0, 1, 0};
            int[] stopped = {0, 0, 0, 1, 0, 1};
            for (int motion = 0; motion < 6; motion++) {
                due(b.motion(motion, 2), runs[motion]);
                due(b.motion(motion, 7), stopped[motion]);
            }
            due(b.motion(1, 3), NOT_FOUND);
            due(b.input(1, 0), 0);
            due(b.count(11), 2);
        });
        says(" and its first out is the least input of its rows that counts as open now "
                + "and counted as closed ahead of this change (or tick),", () -> {
            InterlockBoard b = new InterlockBoard();
            b.sensor(0);
            b.sensor(0);
            b.sensor(3);
            b.sensor(3);
            b.sensor(3);
            for (int sensor = 1; sensor < 5; sensor++) {
                b.input(sensor, 1);
            }
            b.row(0, 0b00011);
            b.row(0, 0b11000);
            b.row(1, 0b00001);
            b.row(1, 0b00010);
            b.start(0);
            b.start(1);
            due(b.run(4), 1);
            due(b.motion(0, 3), 3);
            due(b.input(1, 0), 1);
            due(b.motion(1, 3), 1);
            InterlockBoard other = new InterlockBoard();
            other.sensor(1);
            other.sensor(3);
            other.input(0, 1);
            other.input(1, 1);
            other.row(0, 0b01);
            other.row(0, 0b10);
            other.start(0);
            due(other.run(9), 1);
            due(other.motion(0, 3), 1);
        });
        tellsNoBoundary(" or, if there is none, the least input of its rows that counts as open.");
    }

    private static void tests() {
        section("Tests");
        says("A proof test of a sensor can be begun if it is closed itself "
                + "(whether it counts as closed or not)", () -> {
            InterlockBoard b = withLocks();
            b.keyIn(0, 1);
            b.sensor(1);
            due(b.test(1), NOT_POSSIBLE);
            due(b.test(0), NOT_POSSIBLE);
            b.bridge(0, 9);
            due(b.inputInfo(0, 2), 1);
            due(b.test(0), NOT_POSSIBLE);
            b.input(0, 1);
            due(b.test(0), 20);
            b.input(7, 1);
            b.run(2);
            due(b.inputInfo(7, 2), 0);
            due(b.test(7), 22);
        });
        says(" and no test of it goes on.", () -> {
            InterlockBoard b = closedSensors(2);
            b.test(0);
            due(b.test(0), NOT_POSSIBLE);
            due(b.test(1), 20);
            b.run(20);
            due(b.test(0), NOT_POSSIBLE);
            b.run(1);
            due(b.test(0), 41);
            b.input(0, 0);
            b.input(0, 1);
            due(b.test(0), 41);
        });
        says("It goes on with the sensor opened,", () -> {
            InterlockBoard b = closedSensors(1);
            b.test(0);
            b.input(0, 1);
            due(b.inputInfo(0, 9), 1);
            due(b.count(13), 0);
            b.input(0, 0);
            due(b.inputInfo(0, 9), 2);
            b.input(0, 0);
            due(b.inputInfo(0, 9), 2);
        });
        says(" and is done when it is closed again,", () -> {
            InterlockBoard b = closedSensors(1);
            b.input(0, 0);
            b.input(0, 1);
            due(b.count(13), 0);
            b.test(0);
            b.input(0, 0);
            due(b.count(13), 0);
            b.input(0, 1);
            due(b.count(13), 1);
            due(b.inputInfo(0, 9), 0);
            b.input(0, 1);
            due(b.count(13), 1);
        });
        says(" if both happen within 20 ticks behind the beginning "
                + "(the tick in which it was begun plus 20 at the latest);", () -> {
            InterlockBoard b = closedSensors(3);
            b.run(5);
            for (int sensor = 0; sensor < 3; sensor++) {
                due(b.test(sensor), 25);
            }
            b.input(1, 0);
            b.input(2, 0);
            b.run(20);
            b.input(0, 0);
            b.input(0, 1);
            b.input(1, 1);
            due(b.count(13), 2);
            b.run(1);
            b.input(2, 1);
            due(b.count(13), 2);
            due(b.inputInfo(2, 6), 0);
        });
        says(" then the sensor was tested in the present tick.", () -> {
            InterlockBoard b = closedSensors(2);
            b.run(3);
            b.test(0);
            b.test(1);
            b.run(4);
            b.input(0, 0);
            b.run(5);
            due(b.inputInfo(0, 6), 0);
            b.input(0, 1);
            due(b.inputInfo(0, 6), 12);
            due(b.inputInfo(1, 6), 0);
        });
        says("Otherwise the test ends at the first tick behind that without being done.", () -> {
            InterlockBoard b = closedSensors(2);
            b.test(0);
            b.test(1);
            b.input(1, 0);
            b.run(20);
            due(b.inputInfo(0, 9), 1);
            due(b.inputInfo(1, 9), 2);
            b.run(1);
            due(b.inputInfo(0, 9), 0);
            due(b.inputInfo(1, 9), 0);
            b.input(0, 0);
            b.input(0, 1);
            b.input(1, 1);
            due(b.count(13), 0);
            due(b.inputInfo(0, 6), 0);
            due(b.inputInfo(1, 6), 0);
        });
    }

    private static void ticks() {
        section("Ticks");
        says("In a tick, first, for each input that is bridged one more bridged tick is counted;", () -> {
            InterlockBoard b = withSensors(16);
            b.bridge(0, 1);
            b.bridge(15, 500);
            b.run(1);
            due(b.inputInfo(0, 8), 1);
            due(b.inputInfo(15, 8), 1);
            due(b.inputInfo(1, 8), 0);
            b.run(500);
            due(b.inputInfo(0, 8), 1);
            due(b.inputInfo(15, 8), 500);
            due(b.count(12), 501);
        });
        says(" then the number of ticks that have gone by grows by 1;", () -> {
            InterlockBoard b = new InterlockBoard();
            b.sensor(1);
            b.input(0, 1);
            b.row(0, 1);
            b.start(0);
            due(b.run(1), 0);
            due(b.count(8), 1);
            due(b.run(1), 1);
            due(b.count(8), 2);
            due(b.motion(0, 4), 2);
            due(b.run(500), 0);
            due(b.count(8), 502);
        });
        says(" bridges that are over end,", () -> {
            InterlockBoard b = withSensors(2);
            b.bridge(0, 2);
            b.bridge(1, 3);
            b.row(0, 0b01);
            b.row(1, 0b10);
            b.start(0);
            b.start(1);
            due(b.run(3), 2);
            due(b.motion(0, 4), 2);
            due(b.motion(1, 4), 3);
        });
        says(" tests that took too long end;", () -> {
            InterlockBoard b = closedSensors(2);
            b.test(0);
            b.run(1);
            b.test(1);
            b.run(19);
            due(b.inputInfo(0, 9), 1);
            b.run(1);
            due(b.inputInfo(0, 9), 0);
            due(b.inputInfo(1, 9), 1);
            b.run(1);
            due(b.inputInfo(1, 9), 0);
        });
        says(" then the motions are looked at; then each motion that runs has run one tick more.", () -> {
            InterlockBoard b = closedSensors(1);
            b.sensor(0);
            b.bridge(1, 1);
            b.row(0, 0b10);
            b.row(5, 0b01);
            b.start(0);
            b.start(5);
            due(b.run(1), 1);
            due(b.motion(0, 5), 0);
            due(b.motion(5, 5), 1);
            b.run(499);
            due(b.motion(0, 5), 0);
            due(b.motion(5, 5), 500);
            due(b.motion(1, 5), 0);
            due(b.stop(5), 500);
        });
    }

    private static void texts() {
        section("Texts");
        says("There is a text of at most 80 characters, initially empty:", () -> {
            InterlockBoard b = new InterlockBoard();
            due(b.count(15), 0);
            due(b.clearText(), 0);
            due(b.fault(0), NOT_FOUND);
            for (int length = 1; length <= 80; length++) {
                due(b.type('0'), length);
            }
            due(b.type('0'), LIMIT);
            due(b.count(15), 80);
        });
        says(" a sequence of rows, each followed by \";\":", () -> {
            InterlockBoard b = typed("0:0;1:1;");
            dueFault(b, NOT_FOUND, NOT_FOUND);
            due(b.read(), 2);
            retype(b, "0:0;1:1");
            dueFault(b, 4, 1);
            retype(b, "0:01:1;");
            dueFault(b, 0, 1);
            retype(b, "0:0;;");
            dueFault(b, 4, 1);
            retype(b, ";");
            dueFault(b, 0, 1);
            String[] others = {"0:0,1:1;", "0:0<1:1;", "0:0~", "0:0:", "0:0x", "0:0<;"};
            for (String text : others) {
                retype(b, text);
                dueFault(b, 0, 1);
                due(b.read(), NOT_POSSIBLE);
            }
        });
        says(" the digit of a motion (0 to 5),", () -> {
            InterlockBoard b = typed("0:0;5:0;");
            due(b.read(), 2);
            due(b.motion(0, 0), 1);
            due(b.motion(5, 0), 1);
            String[] wrong = {"6:0;", "9:0;", "/:0;", "::0;", " :0;", "00:0;", "-1:0;", ":0;", "A:0;"};
            for (String text : wrong) {
                retype(b, text);
                dueFault(b, 0, 1);
            }
        });
        says(" \":\",", () -> {
            InterlockBoard b = withSensors(3);
            String[] wrong = {"00;", "0;0;", "0.0;", "0::0;", "0;", "0 0;", "0 :0;", "0<0;", "090;", "0~0;"};
            for (String text : wrong) {
                retype(b, text);
                dueFault(b, 0, 1);
            }
        });
        says(" and inputs with \".\" between two of them", () -> {
            InterlockBoard b = typed("0:0.1.2;");
            due(b.read(), 1);
            due(b.motion(0, 8), 7);
            String[] wrong = {"0:;", "0:.;", "0:.0;", "0:0.;", "0:0..1;", "0:0,1;", "0:0:1;", "0:0 1;"};
            for (String text : wrong) {
                retype(b, text);
                dueFault(b, 0, 1);
            }
        });
        says(" (1 or 2 digits each;", () -> {
            InterlockBoard b = withSensors(16);
            type(b, "0:0.9.10.15;");
            due(b.read(), 1);
            due(b.motion(0, 8), 1 | 1 << 9 | 1 << 10 | 1 << 15);
            String[] wrong = {"0:000;", "0:001;", "0:100;", "0:0.001;", "0:001.0;", "0:/;", "0:a;",
                "0:-1;", "0:+1;", "0: 1;", "0:1 ;"};
            for (String text : wrong) {
                retype(b, text);
                dueFault(b, 0, 1);
            }
        });
        says(" zeros may stand ahead;", () -> {
            InterlockBoard b = withSensors(16);
            type(b, "0:00.01;1:09;");
            due(b.read(), 2);
            due(b.motion(0, 8), 3);
            due(b.motion(1, 8), 1 << 9);
        });
        says(" one may be there twice).", () -> {
            InterlockBoard b = typed("0:1.1.01;0:1;");
            due(b.read(), 2);
            due(b.motion(0, 8), 2);
            due(b.motion(0, 9), 2);
        });
    }

    private static void faults() {
        says("The fault of the text is the position, from 0, "
                + "of the first character of the first row that is not possible;", () -> {
            InterlockBoard b = typed("x");
            dueFault(b, 0, 1);
            retype(b, "0:0;0:01.1;1:3;x;");
            dueFault(b, 11, 2);
            retype(b, "0:0;x;1:3;");
            dueFault(b, 4, 1);
            retype(b, "0:0;0:0;0:0;0:0;0:0;0:0;0:0;0:0;0:0;0:0;0:0;0:0;0:0;0:0;0:0;0:0;0:0;0:0;0:0;0:0;");
            dueFault(b, 16, 4);
            retype(b, "0:0;1:0;2:0;3:0;0:0;1:0;2:0;3:0;0:0;1:0;2:0;3:0;0:0;1:0;2:0;3:0;4:0;4:0;4:0;    ");
            due(b.count(15), 80);
            dueFault(b, 76, 1);
        });
        says(" its reason is 1 if it is not of this form (also if its \";\" is missing),", () -> {
            String[] wrong = {"0", "0:", "0:0", "0:0.", "0:0.1", " ", "~", "0:0 ;", "x:0;", ";"};
            for (String text : wrong) {
                dueFault(typed(text), 0, 1);
            }
        });
        says(" 2 if there is no such input,", () -> {
            InterlockBoard b = typed("0:2;");
            dueFault(b, NOT_FOUND, NOT_FOUND);
            String[] wrong = {"0:3;", "0:03;", "0:99;", "0:0.3;", "0:3.0;", "0:32;", "0:64;", "0:10;"};
            for (String text : wrong) {
                retype(b, text);
                dueFault(b, 0, 2);
            }
            InterlockBoard empty = new InterlockBoard();
            type(empty, "0:0;");
            dueFault(empty, 0, 2);
            InterlockBoard full = withSensors(16);
            type(full, "0:15;");
            dueFault(full, NOT_FOUND, NOT_FOUND);
            retype(full, "0:16;");
            dueFault(full, 0, 2);
        });
        says(" 3 if its motion runs,", () -> {
            InterlockBoard b = running(5);
            type(b, "4:0;5:0;");
            dueFault(b, 4, 3);
            b.stop(5);
            dueFault(b, NOT_FOUND, NOT_FOUND);
        });
        says(" 4 if this motion would have more than 4 rows (those ahead of it in the text counted);", () -> {
            InterlockBoard b = typed("5:0;5:0;5:0;5:0;");
            dueFault(b, NOT_FOUND, NOT_FOUND);
            type(b, "5:0;");
            dueFault(b, 16, 4);
            b.row(5, 1);
            dueFault(b, 12, 4);
            b.row(5, 1);
            b.row(5, 1);
            b.row(5, 1);
            dueFault(b, 0, 4);
            retype(b, "0:0;1:0;2:0;3:0;4:0;0:0;1:0;2:0;3:0;4:0;");
            dueFault(b, NOT_FOUND, NOT_FOUND);
            retype(b, "0:0.0;0:00.00;0:0;0:00;");
            dueFault(b, NOT_FOUND, NOT_FOUND);
            type(b, "0:0;");
            dueFault(b, 23, 4);
        });
        says(" the first one of these that applies.", () -> {
            InterlockBoard b = closedSensors(1);
            for (int rows = 0; rows < 4; rows++) {
                b.row(0, 1);
            }
            type(b, "0:0;");
            dueFault(b, 0, 4);
            b.start(0);
            dueFault(b, 0, 3);
            retype(b, "0:1;");
            dueFault(b, 0, 2);
            retype(b, "0:1");
            dueFault(b, 0, 1);
        });
    }
}
