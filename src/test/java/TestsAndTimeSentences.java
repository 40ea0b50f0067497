/** Promises 24 to 29: test, run, count, snapshot, restore, undo. */
final class TestsAndTimeSentences extends Sentences {
    static void test() {
        proofTest();
        run();
        countsOfInputs();
        countsOfMotions();
        countsOfOthers();
        snapshot();
        restore();
        undo();
    }

    private static void proofTest() {
        section("Promise 24: test");
        says("`int test(int input)`: Begins a proof test.", () -> {
            InterlockBoard b = closedSensors(2);
            b.test(1);
            due(b.inputInfo(1, 9), 1);
            due(b.inputInfo(0, 9), 0);
            due(b.count(13), 0);
        });
        says("`input`: number of the input", () -> {
            InterlockBoard b = closedSensors(16);
            due(b.test(0), 20);
            due(b.test(15), 20);
        });
        says("Returns the last tick in which it can be done;", () -> {
            InterlockBoard b = closedSensors(3);
            due(b.test(0), 20);
            b.run(7);
            due(b.test(1), 27);
            b.run(13);
            b.input(0, 0);
            b.input(0, 1);
            due(b.count(13), 1);
            b.run(7);
            b.input(1, 0);
            b.input(1, 1);
            due(b.count(13), 2);
            runTicks(b, 100000 - 500 - 27);
            b.run(500);
            due(b.count(8), 100000);
            due(b.test(2), 100020);
        });
        says(" INVALID_ARGUMENT;", () -> {
            InterlockBoard b = closedSensors(2);
            outOfRange(0, 1, input -> b.test(input));
        });
        says(" NOT_POSSIBLE if it is a lock,", () -> {
            InterlockBoard b = withLocks();
            b.keyIn(5, 6);
            due(b.test(1), NOT_POSSIBLE);
            due(b.test(6), NOT_POSSIBLE);
            due(b.inputInfo(6, 9), 0);
        });
        says(" open,", () -> {
            InterlockBoard b = withSensors(2);
            due(b.test(0), NOT_POSSIBLE);
            b.bridge(1, 9);
            due(b.test(1), NOT_POSSIBLE);
            b.input(0, 1);
            due(b.test(0), 20);
        });
        says(" or a test of it goes on.", () -> {
            InterlockBoard b = closedSensors(1);
            b.test(0);
            due(b.test(0), NOT_POSSIBLE);
            b.run(20);
            due(b.test(0), NOT_POSSIBLE);
            b.input(0, 0);
            due(b.test(0), NOT_POSSIBLE);
            b.input(0, 1);
            due(b.test(0), 40);
            b.run(21);
            due(b.test(0), 61);
        });
    }

    private static void run() {
        section("Promise 25: run");
        says("`int run(int ticks)`: Lets ticks go by.", () -> {
            InterlockBoard b = new InterlockBoard();
            b.run(1);
            due(b.count(8), 1);
            b.run(500);
            due(b.count(8), 501);
        });
        says("`ticks`: 1 to 500", () -> {
            InterlockBoard b = new InterlockBoard();
            due(b.run(1), 0);
            due(b.run(500), 0);
        });
        says("Returns how many motions are stopped;", () -> {
            InterlockBoard b = new InterlockBoard();
            for (int motion = 0; motion < 6; motion++) {
                b.sensor(motion);
                b.input(motion, 1);
                b.row(motion, 1 << motion);
                b.start(motion);
            }
            due(b.run(1), 0);
            due(b.run(1), 1);
            due(b.run(2), 2);
            due(b.run(500), 2);
            due(b.run(500), 0);
            due(b.count(5), 1);
        });
        says(" INVALID_ARGUMENT if ticks is out of range;", () -> {
            InterlockBoard b = new InterlockBoard();
            outOfRange(1, 500, ticks -> b.run(ticks));
            due(b.run(-500), INVALID);
            due(b.count(8), 0);
        });
        says(" LIMIT_REACHED if there would be more than 100000 ticks in all.", () -> {
            InterlockBoard b = new InterlockBoard();
            runTicks(b, 99501);
            due(b.run(500), LIMIT);
            due(b.count(8), 99501);
            due(b.run(499), 0);
            due(b.count(8), 100000);
            due(b.run(1), LIMIT);
            due(b.run(500), LIMIT);
            due(b.run(501), INVALID);
            due(b.run(0), INVALID);
            due(b.run(Integer.MAX_VALUE), INVALID);
            due(b.count(8), 100000);
        });
    }

    private static void countsOfInputs() {
        section("Promise 26: count");
        tellsNoBoundary("`int count(int what)`: Returns a number.");
        says("`what`: 0: inputs;", () -> {
            InterlockBoard b = new InterlockBoard();
            for (int inputs = 0; inputs < 16; inputs++) {
                due(b.count(0), inputs);
                due(inputs % 2 == 0 ? b.sensor(0) : b.lock(0, -1), inputs);
            }
            due(b.count(0), 16);
        });
        says(" 1: those that count as closed;", () -> {
            InterlockBoard b = withSensors(16);
            due(b.count(1), 0);
            for (int sensor = 0; sensor < 16; sensor++) {
                b.input(sensor, 1);
                due(b.count(1), sensor + 1);
            }
            b.input(15, 0);
            b.bridge(0, 1);
            due(b.count(1), 15);
            b.bridge(15, 1);
            due(b.count(1), 16);
        });
        says(" 2: overdue ones;", () -> {
            InterlockBoard b = new InterlockBoard();
            for (int sensor = 0; sensor < 16; sensor++) {
                b.sensor(sensor % 2 + 1);
            }
            b.run(1);
            due(b.count(2), 0);
            b.run(1);
            due(b.count(2), 8);
            b.run(1);
            due(b.count(2), 16);
            b.bridge(0, 9);
            b.input(1, 1);
            due(b.count(2), 16);
        });
        says(" 3: bridged ones;", () -> {
            InterlockBoard b = withSensors(16);
            due(b.count(3), 0);
            b.bridge(0, 2);
            b.bridge(15, 1);
            b.bridge(7, 1);
            due(b.count(3), 3);
            b.run(1);
            due(b.count(3), 1);
            b.unbridge(0);
            due(b.count(3), 0);
        });
        says(" 4: keys in locks;", () -> {
            InterlockBoard b = withLocks();
            b.input(0, 1);
            b.bridge(1, 9);
            due(b.count(4), 0);
            for (int key = 0; key < 6; key++) {
                b.keyIn(key, key + 1);
                due(b.count(4), key + 1);
            }
            b.keyOut(0);
            due(b.count(4), 5);
        });
    }

    private static void countsOfMotions() {
        says(" 5: motions that run;", () -> {
            InterlockBoard b = running(0, 1, 2, 3, 4, 5);
            due(b.count(5), 6);
            b.stop(5);
            due(b.count(5), 5);
            b.input(0, 0);
            due(b.count(5), 0);
        });
        says(" 6: permitted ones;", () -> {
            InterlockBoard b = running(0);
            due(b.count(6), 1);
            for (int motion = 1; motion < 6; motion++) {
                b.row(motion, 1);
                due(b.count(6), motion + 1);
            }
            b.exclude(0, 1, 1);
            due(b.count(6), 6);
            b.input(0, 0);
            due(b.count(6), 0);
            b.bridge(0, 1);
            due(b.count(6), 6);
        });
        says(" 7: motions with a first out;", () -> {
            InterlockBoard b = running(0, 1, 2, 3, 4, 5);
            due(b.count(7), 0);
            b.stop(2);
            b.input(0, 0);
            due(b.count(7), 5);
            b.reset(5);
            due(b.count(7), 4);
        });
        says(" 8: ticks;", () -> {
            InterlockBoard b = new InterlockBoard();
            due(b.count(8), 0);
            b.run(500);
            b.run(1);
            due(b.count(8), 501);
        });
        says(" 9: ticks that all motions ran together;", () -> {
            InterlockBoard b = running(0, 5);
            due(b.count(9), 0);
            b.run(3);
            due(b.count(9), 6);
            b.stop(0);
            b.run(2);
            due(b.count(9), 8);
            InterlockBoard longest = running(0, 1, 2, 3, 4, 5);
            runTicks(longest, 100000);
            due(longest.count(9), 600000);
        });
        says(" 10: starts of all;", () -> {
            InterlockBoard b = running(0, 5);
            due(b.count(10), 2);
            b.start(0);
            due(b.count(10), 2);
            b.stop(0);
            b.start(0);
            due(b.count(10), 3);
        });
        says(" 11: how often motions were stopped by inputs;", () -> {
            InterlockBoard b = running(0, 4, 5);
            b.stop(4);
            due(b.count(11), 0);
            b.input(0, 0);
            due(b.count(11), 2);
            b.input(0, 1);
            b.reset(0);
            b.start(0);
            b.input(0, 0);
            due(b.count(11), 3);
        });
    }

    private static void countsOfOthers() {
        says(" 12: bridged ticks of all inputs;", () -> {
            InterlockBoard b = withSensors(16);
            b.bridge(0, 5);
            b.bridge(15, 3);
            due(b.count(12), 0);
            b.run(4);
            due(b.count(12), 7);
            b.unbridge(0);
            b.run(1);
            due(b.count(12), 7);
        });
        says(" 13: tests that were done;", () -> {
            InterlockBoard b = closedSensors(2);
            for (int done = 0; done < 3; done++) {
                due(b.count(13), done);
                b.test(done % 2);
                b.input(done % 2, 0);
                b.input(done % 2, 1);
            }
            b.test(0);
            b.input(0, 0);
            b.run(21);
            b.input(0, 1);
            due(b.count(13), 3);
        });
        says(" 14: states in the history;", () -> {
            InterlockBoard b = new InterlockBoard();
            for (int changes = 0; changes < 6; changes++) {
                due(b.count(14), Math.min(changes, 4));
                b.sensor(0);
            }
            b.undo();
            due(b.count(14), 3);
        });
        says(" 15: the length of the text;", () -> {
            InterlockBoard b = new InterlockBoard();
            for (int length = 0; length < 80; length++) {
                due(b.count(15), length);
                b.type(126);
            }
            b.type(32);
            due(b.count(15), 80);
            b.clearText();
            due(b.count(15), 0);
        });
        says(" 16: snapshots", () -> {
            InterlockBoard b = new InterlockBoard();
            due(b.count(16), 0);
            b.snapshot(1);
            due(b.count(16), 1);
            b.snapshot(0);
            due(b.count(16), 2);
            b.snapshot(1);
            b.restore(0);
            due(b.count(16), 2);
        });
        says("Returns the number;", () -> {
            InterlockBoard b = running(0);
            b.run(2);
            int[] due = {1, 1, 0, 0, 0, 1, 1, 0, 2, 2, 1, 0, 0, 0, 4, 0, 0};
            for (int what = 0; what <= 16; what++) {
                due(b.count(what), due[what]);
            }
        });
        says(" INVALID_ARGUMENT if what is out of range.",
                () -> outOfRange(0, 16, what -> running(0).count(what)));
    }

    private static void snapshot() {
        section("Promise 27: snapshot");
        says("`int snapshot(int place)`: Takes a snapshot of everything", () -> {
            InterlockBoard b = new InterlockBoard();
            b.snapshot(1);
            fill(b);
            b.snapshot(0);
            int[] answers = stateAnswers(b);
            b.restore(1);
            fillOtherwise(b);
            b.restore(0);
            dueSame(stateAnswers(b), answers);
            dueFilledGoesOn(b);
        });
        says(" but the history, the text and the snapshots.", () -> {
            InterlockBoard b = new InterlockBoard();
            type(b, "ab");
            b.run(1);
            b.snapshot(0);
            due(b.count(14), 1);
            b.run(1);
            type(b, "c");
            b.snapshot(1);
            due(b.restore(0), 1);
            due(b.count(14), 3);
            due(b.count(15), 3);
            due(b.count(16), 2);
            due(b.undo(), 2);
            due(b.count(8), 2);
            due(b.undo(), 1);
            due(b.count(8), 1);
            due(b.restore(1), 2);
        });
        says("`place`: 0 or 1;", () -> {
            InterlockBoard b = new InterlockBoard();
            due(b.snapshot(0), 1);
            b.run(1);
            due(b.snapshot(1), 2);
            b.run(1);
            due(b.restore(0), 0);
            due(b.restore(1), 1);
        });
        says(" one that is there is replaced", () -> {
            InterlockBoard b = new InterlockBoard();
            for (int ticks = 0; ticks < 3; ticks++) {
                b.snapshot(0);
                b.snapshot(1);
                b.run(1);
                due(b.restore(0), ticks);
                b.run(1);
            }
            due(b.restore(1), 2);
        });
        says("Returns the number of snapshots;", () -> {
            InterlockBoard b = new InterlockBoard();
            due(b.snapshot(1), 1);
            due(b.snapshot(1), 1);
            due(b.snapshot(0), 2);
            due(b.snapshot(0), 2);
            due(b.snapshot(1), 2);
        });
        says(" INVALID_ARGUMENT if place is out of range.", () -> {
            InterlockBoard b = new InterlockBoard();
            outOfRange(0, 1, place -> b.snapshot(place));
            due(b.count(16), 0);
        });
    }

    private static void restore() {
        section("Promise 28: restore");
        says("`int restore(int place)`: Restores a snapshot, which stays.", () -> {
            InterlockBoard b = running(0);
            b.snapshot(1);
            for (int time = 0; time < 3; time++) {
                b.input(0, 0);
                b.sensor(0);
                b.run(4);
                due(b.restore(1), 0);
                due(b.count(16), 1);
                due(b.count(0), 1);
                due(b.count(5), 1);
            }
        });
        says("`place`: 0 or 1", () -> {
            InterlockBoard b = new InterlockBoard();
            b.snapshot(0);
            b.run(5);
            b.snapshot(1);
            due(b.restore(0), 0);
            due(b.restore(1), 5);
        });
        says("Returns the ticks then;", () -> {
            InterlockBoard b = new InterlockBoard();
            b.snapshot(0);
            due(b.restore(0), 0);
            runTicks(b, 100000);
            b.snapshot(1);
            due(b.restore(0), 0);
            due(b.run(1), 0);
            due(b.restore(1), 100000);
            due(b.run(1), LIMIT);
        });
        says(" INVALID_ARGUMENT if place is out of range;", () -> {
            InterlockBoard b = new InterlockBoard();
            outOfRange(0, 1, place -> b.restore(place));
            b.snapshot(0);
            b.snapshot(1);
            outOfRange(0, 1, place -> b.restore(place));
            due(b.count(14), 0);
        });
        says(" NOT_POSSIBLE if there is none.", () -> {
            for (int place = 0; place < 2; place++) {
                InterlockBoard b = new InterlockBoard();
                due(b.restore(place), NOT_POSSIBLE);
                b.snapshot(1 - place);
                due(b.restore(place), NOT_POSSIBLE);
                due(b.restore(1 - place), 0);
                b.undo();
                due(b.restore(1 - place), 0);
            }
        });
    }

    private static void undo() {
        section("Promise 29: undo");
        says("`int undo()`: Restores the latest state of the history, which is removed from it.", () -> {
            InterlockBoard b = running(0, 5);
            b.run(3);
            b.input(0, 0);
            b.undo();
            due(b.count(14), 3);
            due(b.count(5), 2);
            due(b.count(8), 3);
            due(b.motion(0, 3), NOT_FOUND);
            b.undo();
            due(b.count(14), 2);
            due(b.count(8), 0);
            b.undo();
            due(b.count(5), 1);
            b.undo();
            due(b.motion(5, 0), 0);
            due(b.count(14), 0);
            due(b.count(0), 1);
        });
        says("Returns the number of states that are left in the history;", () -> {
            InterlockBoard b = new InterlockBoard();
            for (int changes = 1; changes <= 4; changes++) {
                b.run(1);
                due(b.undo(), changes - 1);
                b.run(1);
            }
            b.run(1);
            for (int left = 3; left >= 0; left--) {
                due(b.undo(), left);
            }
        });
        says(" NOT_POSSIBLE if it is empty.", () -> {
            InterlockBoard b = new InterlockBoard();
            due(b.undo(), NOT_POSSIBLE);
            b.snapshot(0);
            b.type('0');
            due(b.undo(), NOT_POSSIBLE);
            b.sensor(0);
            due(b.undo(), 0);
            due(b.undo(), NOT_POSSIBLE);
            due(b.count(15), 1);
        });
    }
}
