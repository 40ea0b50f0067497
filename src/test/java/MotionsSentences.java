/** Promises 13 to 23: row, dropRows, exclude, start, why, stop, reset, motion, ways, needed. */
final class MotionsSentences extends Sentences {
    static void test() {
        row();
        rowRefused();
        dropRows();
        exclude();
        start();
        why();
        stop();
        reset();
        propertiesOfState();
        propertiesOfTime();
        propertiesOfRows();
        ways();
        waysAgain();
        needed();
    }

    private static void row() {
        section("Promise 13: row");
        says("`int row(int motion, int inputs)`: Adds a row to a motion.", () -> {
            InterlockBoard b = withSensors(3);
            b.row(0, 5);
            b.row(5, 6);
            b.row(0, 2);
            due(b.motion(0, 0), 2);
            due(b.motion(0, 8), 5);
            due(b.motion(0, 9), 2);
            due(b.motion(5, 0), 1);
            due(b.motion(5, 8), 6);
            due(b.motion(1, 0), 0);
        });
        says("`motion`: 0 to 5", () -> {
            InterlockBoard b = withSensors(1);
            due(b.row(0, 1), 1);
            due(b.row(5, 1), 1);
        });
        says("`inputs`: the inputs as a bit mask, not 0", () -> {
            InterlockBoard b = withSensors(16);
            due(b.row(0, 1), 1);
            due(b.row(0, 1 << 15), 2);
            due(b.row(0, 0xffff), 3);
            due(b.row(0, 0), INVALID);
            due(b.motion(0, 8), 1);
            due(b.motion(0, 9), 1 << 15);
            due(b.motion(0, 10), 0xffff);
            b.input(15, 1);
            due(b.needed(0), 0);
            b.input(15, 0);
            b.input(0, 1);
            due(b.needed(0), 0);
        });
        says("Returns the number of rows;", () -> {
            InterlockBoard b = withSensors(1);
            for (int rows = 1; rows <= 4; rows++) {
                due(b.row(5, 1), rows);
            }
            b.dropRows(5);
            due(b.row(5, 1), 1);
            due(b.row(4, 1), 1);
        });
    }

    private static void rowRefused() {
        says(" INVALID_ARGUMENT if motion is out of range,", () -> {
            InterlockBoard b = withSensors(1);
            outOfRange(0, 5, motion -> b.row(motion, 1));
        });
        says(" or inputs is 0", () -> {
            due(new InterlockBoard().row(0, 0), INVALID);
            due(withSensors(1).row(0, 0), INVALID);
            due(withSensors(16).row(5, 0), INVALID);
        });
        says(" or has a bit of no input;", () -> {
            for (int size = 0; size <= 16; size += size == 1 ? 14 : 1) {
                InterlockBoard b = withSensors(size);
                for (int bit = size; bit < 32; bit++) {
                    due(b.row(0, 1 << bit), INVALID);
                    due(b.row(0, 1 | 1 << bit), INVALID);
                }
                due(b.row(0, -1), INVALID);
                due(b.row(0, Integer.MAX_VALUE), INVALID);
                due(b.motion(0, 0), 0);
                due(b.row(0, (1 << size) - 1), size == 0 ? INVALID : 1);
            }
        });
        says(" NOT_POSSIBLE if the motion runs;", () -> {
            InterlockBoard b = running(0, 5);
            due(b.row(0, 1), NOT_POSSIBLE);
            due(b.row(5, 1), NOT_POSSIBLE);
            due(b.motion(0, 0), 1);
            due(b.row(1, 1), 1);
            b.stop(0);
            due(b.row(0, 1), 2);
            b.input(0, 0);
            due(b.row(5, 1), 2);
        });
        says(" LIMIT_REACHED if it has 4 rows.", () -> {
            InterlockBoard b = withSensors(1);
            type(b, "0:0;0:0;0:0;");
            b.read();
            due(b.row(0, 1), 4);
            due(b.row(0, 1), LIMIT);
            due(b.row(1, 1), 1);
            b.dropRows(0);
            due(b.row(0, 1), 1);
        });
    }

    private static void dropRows() {
        section("Promise 14: dropRows");
        says("`int dropRows(int motion)`: Removes all rows of a motion.", () -> {
            InterlockBoard b = closedSensors(1);
            for (int rows = 0; rows < 4; rows++) {
                b.row(0, 1);
                b.row(1, 1);
            }
            b.dropRows(0);
            due(b.motion(0, 0), 0);
            for (int what = 8; what <= 11; what++) {
                due(b.motion(0, what), NOT_FOUND);
                due(b.motion(1, what), 1);
            }
            due(b.motion(0, 1), 0);
            due(b.motion(1, 1), 1);
            due(b.ways(0), 0);
            due(b.waysAgain(0), 0);
            due(b.needed(0), NOT_FOUND);
        });
        says("`motion`: 0 to 5", () -> {
            InterlockBoard b = withSensors(1);
            b.row(0, 1);
            b.row(5, 1);
            due(b.dropRows(0), 1);
            due(b.dropRows(5), 1);
        });
        says("Returns how many there were;", () -> {
            InterlockBoard b = withSensors(1);
            for (int rows = 0; rows <= 4; rows++) {
                for (int row = 0; row < rows; row++) {
                    b.row(3, 1);
                }
                due(b.dropRows(3), rows);
                due(b.dropRows(3), 0);
            }
        });
        says(" INVALID_ARGUMENT if motion is out of range;", () -> {
            InterlockBoard b = withSensors(1);
            b.row(0, 1);
            outOfRange(0, 5, motion -> b.dropRows(motion));
            due(b.motion(0, 0), 1);
        });
        says(" NOT_POSSIBLE if it runs.", () -> {
            InterlockBoard b = running(5);
            due(b.dropRows(5), NOT_POSSIBLE);
            due(b.motion(5, 0), 1);
            due(b.dropRows(0), 0);
            b.stop(5);
            due(b.dropRows(5), 1);
        });
    }

    private static void exclude() {
        section("Promise 15: exclude");
        says("`int exclude(int a, int b, int is)`: Makes two motions exclude each other, or not.", () -> {
            InterlockBoard b = new InterlockBoard();
            b.exclude(0, 5, 1);
            b.exclude(3, 0, 1);
            due(b.motion(0, 12), 0b101000);
            due(b.motion(3, 12), 0b000001);
            due(b.motion(5, 12), 0b000001);
            b.exclude(5, 0, 0);
            due(b.motion(0, 12), 0b001000);
            due(b.motion(3, 12), 0b000001);
            due(b.motion(5, 12), 0);
        });
        says("`a`: 0 to 5", () -> {
            InterlockBoard b = new InterlockBoard();
            due(b.exclude(0, 1, 1), 0);
            due(b.exclude(5, 1, 1), 0);
            outOfRange(0, 5, a -> b.exclude(a, 1, 1));
        });
        says("`b`: 0 to 5", () -> {
            InterlockBoard board = new InterlockBoard();
            due(board.exclude(1, 0, 1), 0);
            due(board.exclude(1, 5, 1), 0);
            outOfRange(0, 5, b -> board.exclude(1, b, 1));
        });
        says("`is`: 1 or 0", () -> {
            InterlockBoard b = new InterlockBoard();
            due(b.exclude(0, 1, 0), 0);
            due(b.exclude(0, 1, 1), 0);
            outOfRange(0, 1, is -> b.exclude(0, 1, is));
        });
        says("Returns 1 if they did, otherwise 0;", () -> {
            InterlockBoard b = new InterlockBoard();
            due(b.exclude(2, 4, 1), 0);
            due(b.exclude(2, 4, 1), 1);
            due(b.exclude(4, 2, 1), 1);
            due(b.exclude(2, 3, 0), 0);
            due(b.exclude(4, 2, 0), 1);
            due(b.exclude(2, 4, 0), 0);
        });
        says(" INVALID_ARGUMENT if an argument is out of range, or a is b;", () -> {
            InterlockBoard b = new InterlockBoard();
            for (int motion = 0; motion < 6; motion++) {
                due(b.exclude(motion, motion, 1), INVALID);
                due(b.exclude(motion, motion, 0), INVALID);
                due(b.motion(motion, 12), 0);
            }
            due(b.exclude(6, 6, 1), INVALID);
            due(b.exclude(-1, 6, 2), INVALID);
        });
        says(" NOT_POSSIBLE if is is 1 and both run.", () -> {
            InterlockBoard b = running(0, 5);
            due(b.exclude(0, 5, 1), NOT_POSSIBLE);
            due(b.exclude(5, 0, 1), NOT_POSSIBLE);
            due(b.motion(0, 12), 0);
            due(b.exclude(0, 5, 0), 0);
            due(b.exclude(0, 4, 1), 0);
            due(b.exclude(4, 5, 1), 0);
            b.stop(5);
            due(b.exclude(0, 5, 1), 0);
        });
    }

    private static void start() {
        section("Promise 16: start");
        says("`int start(int motion)`: Starts a motion.", () -> {
            InterlockBoard b = running();
            b.row(5, 1);
            b.start(5);
            due(b.motion(5, 2), 1);
            due(b.motion(5, 6), 1);
            due(b.motion(0, 2), 0);
            b.run(3);
            due(b.motion(5, 5), 3);
        });
        says("`motion`: 0 to 5", () -> {
            InterlockBoard b = running();
            b.row(0, 1);
            b.row(5, 1);
            due(b.start(5), 1);
            due(b.start(0), 2);
        });
        says("Returns how many motions run then;", () -> {
            InterlockBoard b = running();
            for (int motion = 0; motion < 6; motion++) {
                b.row(motion, 1);
                due(b.start(motion), motion + 1);
            }
            b.stop(2);
            b.stop(3);
            due(b.start(2), 5);
        });
        says(" INVALID_ARGUMENT if motion is out of range;", () -> {
            InterlockBoard b = running();
            b.row(0, 1);
            outOfRange(0, 5, motion -> b.start(motion));
            due(b.count(5), 0);
        });
        says(" NOT_POSSIBLE if it cannot be started.", () -> {
            InterlockBoard b = running(0);
            due(b.start(0), NOT_POSSIBLE);
            due(b.start(1), NOT_POSSIBLE);
            b.row(1, 1);
            b.exclude(0, 1, 1);
            due(b.start(1), NOT_POSSIBLE);
            due(b.motion(1, 6), 0);
            b.input(0, 0);
            b.input(0, 1);
            due(b.start(0), NOT_POSSIBLE);
            due(b.motion(0, 6), 1);
            due(b.start(1), 1);
        });
    }

    private static void why() {
        section("Promise 17: why");
        says("`int why(int motion)`: Tells why a motion cannot be started.", () -> {
            InterlockBoard b = running(0);
            b.row(1, 1);
            b.exclude(0, 1, 1);
            due(b.why(0), 1);
            due(b.why(1), 4);
            due(b.why(2), 3);
            b.input(0, 0);
            due(b.why(0), 2);
            due(b.why(1), 3);
        });
        says("`motion`: 0 to 5", () -> {
            InterlockBoard b = new InterlockBoard();
            due(b.why(0), 3);
            due(b.why(5), 3);
        });
        says("Returns the reason, 0 if it can;", () -> {
            InterlockBoard b = running();
            b.row(5, 1);
            due(b.why(5), 0);
            due(b.start(5), 1);
            due(b.why(5), 1);
            b.stop(5);
            due(b.why(5), 0);
        });
        says(" INVALID_ARGUMENT if motion is out of range.", () -> {
            InterlockBoard b = running(0);
            outOfRange(0, 5, motion -> b.why(motion));
        });
    }

    private static void stop() {
        section("Promise 18: stop");
        says("`int stop(int motion)`: Stops a motion that runs;", () -> {
            InterlockBoard b = running(0, 5);
            b.stop(5);
            due(b.motion(5, 2), 0);
            due(b.motion(0, 2), 1);
            b.run(2);
            due(b.motion(5, 5), 0);
            due(b.motion(0, 5), 2);
        });
        says(" it gets no first out.", () -> {
            InterlockBoard b = running(5);
            b.stop(5);
            due(b.motion(5, 3), NOT_FOUND);
            due(b.motion(5, 4), NOT_FOUND);
            due(b.motion(5, 7), 0);
            due(b.count(7), 0);
            due(b.count(11), 0);
            due(b.why(5), 0);
        });
        says("`motion`: 0 to 5", () -> {
            InterlockBoard b = running(0, 5);
            due(b.stop(0), 0);
            due(b.stop(5), 0);
            due(b.count(5), 0);
        });
        says("Returns the ticks that it ran since it was started;", () -> {
            InterlockBoard b = running(0);
            due(b.stop(0), 0);
            b.start(0);
            b.run(1);
            due(b.stop(0), 1);
            b.start(0);
            b.run(500);
            b.run(7);
            due(b.stop(0), 507);
            b.run(9);
            b.start(0);
            due(b.stop(0), 0);
            due(b.motion(0, 5), 508);
        });
        says(" INVALID_ARGUMENT if motion is out of range;", () -> {
            InterlockBoard b = running(0, 5);
            outOfRange(0, 5, motion -> b.stop(motion));
            due(b.count(5), 2);
        });
        says(" NOT_POSSIBLE if it does not run.", () -> {
            InterlockBoard b = running(0);
            due(b.stop(5), NOT_POSSIBLE);
            due(b.stop(0), 0);
            due(b.stop(0), NOT_POSSIBLE);
            b.start(0);
            b.input(0, 0);
            due(b.stop(0), NOT_POSSIBLE);
        });
    }

    private static void reset() {
        section("Promise 19: reset");
        says("`int reset(int motion)`: Takes the first out of a motion away.", () -> {
            InterlockBoard b = running(0, 5);
            b.input(0, 0);
            b.reset(5);
            due(b.motion(5, 3), NOT_FOUND);
            due(b.motion(0, 3), 0);
            due(b.count(7), 1);
            b.input(0, 1);
            due(b.why(5), 0);
            due(b.why(0), 2);
        });
        says("`motion`: 0 to 5", () -> {
            InterlockBoard b = running(0, 5);
            b.input(0, 0);
            due(b.reset(0), 0);
            due(b.reset(5), 0);
            due(b.count(7), 0);
        });
        says("Returns the input;", () -> {
            InterlockBoard b = closedSensors(16);
            b.row(0, 1);
            b.row(1, 1 << 15);
            b.start(0);
            b.start(1);
            b.input(0, 0);
            b.input(15, 0);
            due(b.reset(0), 0);
            due(b.reset(1), 15);
        });
        says(" INVALID_ARGUMENT if motion is out of range;", () -> {
            InterlockBoard b = running(0, 5);
            b.input(0, 0);
            outOfRange(0, 5, motion -> b.reset(motion));
            due(b.count(7), 2);
        });
        says(" NOT_POSSIBLE if it has none.", () -> {
            InterlockBoard b = running(0);
            due(b.reset(0), NOT_POSSIBLE);
            due(b.reset(5), NOT_POSSIBLE);
            b.input(0, 0);
            due(b.reset(5), NOT_POSSIBLE);
            due(b.reset(0), 0);
            due(b.reset(0), NOT_POSSIBLE);
        });
    }

    private static void propertiesOfState() {
        section("Promise 20: motion");
        tellsNoBoundary("`int motion(int motion, int what)`: Returns a property of a motion.");
        says("`motion`: 0 to 5", () -> {
            InterlockBoard b = withSensors(1);
            b.row(0, 1);
            b.row(5, 1);
            b.row(5, 1);
            due(b.motion(0, 0), 1);
            due(b.motion(5, 0), 2);
        });
        says("`what`: 0: its rows;", () -> {
            InterlockBoard b = withSensors(1);
            for (int rows = 0; rows <= 4; rows++) {
                due(b.motion(0, 0), rows);
                b.row(0, 1);
            }
            due(b.motion(0, 0), 4);
        });
        says(" 1: 1 if it is permitted, otherwise 0;", () -> {
            InterlockBoard b = closedSensors(1);
            due(b.motion(0, 1), 0);
            b.row(0, 1);
            due(b.motion(0, 1), 1);
            b.start(0);
            due(b.motion(0, 1), 1);
            b.input(0, 0);
            due(b.motion(0, 1), 0);
            b.bridge(0, 1);
            due(b.motion(0, 1), 1);
        });
        says(" 2: 1 if it runs, otherwise 0;", () -> {
            InterlockBoard b = running(5);
            due(b.motion(5, 2), 1);
            due(b.motion(0, 2), 0);
            b.input(0, 0);
            due(b.motion(5, 2), 0);
        });
        says(" 3: its first out;", () -> {
            InterlockBoard b = closedSensors(16);
            b.row(2, 0xffff);
            for (int input = 15; input >= 0; input -= 15) {
                b.start(2);
                due(b.input(input, 0), 1);
                due(b.motion(2, 3), input);
                b.reset(2);
                b.input(input, 1);
            }
        });
    }

    private static void propertiesOfTime() {
        says(" 4: the tick in which it was stopped by an input latest;", () -> {
            InterlockBoard b = running(0);
            b.input(0, 0);
            due(b.motion(0, 4), 0);
            b.input(0, 1);
            b.reset(0);
            due(b.motion(0, 4), 0);
            b.start(0);
            b.run(3);
            due(b.motion(0, 4), 0);
            b.input(0, 0);
            b.run(3);
            due(b.motion(0, 4), 3);
            b.input(0, 1);
            b.reset(0);
            b.start(0);
            b.run(1);
            b.stop(0);
            due(b.motion(0, 4), 3);
        });
        says(" 5: ticks that it ran in all;", () -> {
            InterlockBoard b = running(0);
            due(b.motion(0, 5), 0);
            b.run(500);
            b.stop(0);
            b.run(5);
            b.start(0);
            due(b.motion(0, 5), 500);
            b.run(1);
            due(b.motion(0, 5), 501);
        });
        says(" 6: starts;", () -> {
            InterlockBoard b = running();
            b.row(0, 1);
            for (int starts = 0; starts < 4; starts++) {
                due(b.motion(0, 6), starts);
                b.start(0);
                b.start(0);
                b.stop(0);
            }
            due(b.motion(0, 6), 4);
            due(b.motion(1, 6), 0);
        });
        says(" 7: how often it was stopped by an input;", () -> {
            InterlockBoard b = running(0);
            b.stop(0);
            for (int stops = 0; stops < 4; stops++) {
                due(b.motion(0, 7), stops);
                b.input(0, 1);
                b.start(0);
                b.input(0, 0);
                b.input(0, 0);
                b.reset(0);
            }
            due(b.motion(0, 7), 4);
            due(b.motion(1, 7), 0);
        });
    }

    private static void propertiesOfRows() {
        says(" 8 to 11: the rows 0 to 3, as bit masks;", () -> {
            InterlockBoard b = withSensors(16);
            int[] rows = {1, 1 << 15, 0xffff, 1};
            for (int row = 0; row < 4; row++) {
                b.row(5, rows[row]);
            }
            for (int row = 0; row < 4; row++) {
                due(b.motion(5, 8 + row), rows[row]);
                due(b.motion(4, 8 + row), NOT_FOUND);
            }
        });
        says(" 12: the motions that exclude it, as a bit mask", () -> {
            InterlockBoard b = new InterlockBoard();
            due(b.motion(0, 12), 0);
            for (int other = 1; other < 6; other++) {
                b.exclude(other, 0, 1);
            }
            due(b.motion(0, 12), 0b111110);
            due(b.motion(5, 12), 0b000001);
        });
        says("Returns the property;", () -> {
            InterlockBoard b = running(0, 1);
            b.exclude(5, 0, 1);
            b.run(2);
            b.input(0, 0);
            int[] due = {1, 0, 0, 0, 2, 2, 1, 1, 1, NOT_FOUND, NOT_FOUND, NOT_FOUND, 0b100000};
            for (int what = 0; what <= 12; what++) {
                due(b.motion(0, what), due[what]);
            }
        });
        says(" INVALID_ARGUMENT if an argument is out of range;", () -> {
            InterlockBoard b = running(0);
            outOfRange(0, 12, what -> b.motion(0, what));
            outOfRange(0, 12, what -> b.motion(5, what));
            for (int what = 0; what <= 12; what++) {
                int asked = what;
                outOfRange(0, 5, motion -> b.motion(motion, asked));
            }
        });
        says(" NOT_FOUND for 3 and 4 if there is none,", () -> {
            InterlockBoard b = running(0);
            due(b.motion(0, 3), NOT_FOUND);
            due(b.motion(0, 4), NOT_FOUND);
            b.stop(0);
            due(b.motion(0, 3), NOT_FOUND);
            due(b.motion(0, 4), NOT_FOUND);
            b.start(0);
            b.input(0, 0);
            due(b.motion(0, 3), 0);
            due(b.motion(0, 4), 0);
            b.reset(0);
            due(b.motion(0, 3), NOT_FOUND);
            due(b.motion(0, 4), 0);
        });
        says(" for 8 to 11 if it has not so many rows.", () -> {
            InterlockBoard b = withSensors(1);
            for (int rows = 0; rows <= 4; rows++) {
                for (int row = 0; row < 4; row++) {
                    due(b.motion(0, 8 + row), row < rows ? 1 : NOT_FOUND);
                }
                b.row(0, 1);
            }
        });
    }

    /** Rows of one motion and how many ways there are; the same ones for both ways of counting. */
    private static final int[][] ROWS = {
        {}, {1}, {0b11}, {1, 1}, {1, 0b10}, {0b11, 0b110}, {0b11, 0b110, 0b101},
        {0b1111, 1, 0b10, 0b100}, {0xfff}, {0xfff, 1}, {0xfff0}, {1, 1 << 15, 0x8001, 0x100},
        {0b111, 0b111000, 0b111000000, 0b111000000000}};
    private static final int[] WAYS = {0, 1, 1, 1, 3, 3, 4, 14, 1, 2048, 1, 7, 4096 - 7 * 7 * 7 * 7};

    private static InterlockBoard withRows(int motion, int... rows) {
        InterlockBoard b = withSensors(16);
        for (int row : rows) {
            b.row(motion, row);
        }
        return b;
    }

    private static void ways() {
        section("Promise 21: ways");
        says("`int ways(int motion)`: Counts the ways in which the inputs of a motion's rows could be "
                + "open or closed so that a row of it has only closed ones, by going through all of them.", () -> {
            for (int index = 0; index < ROWS.length; index++) {
                due(withRows(3, ROWS[index]).ways(3), WAYS[index]);
            }
            InterlockBoard b = withRows(3, 0b11, 0b110);
            b.input(1, 1);
            b.bridge(0, 1);
            due(b.ways(3), 3);
        });
        says("`motion`: 0 to 5", () -> {
            due(withRows(0, 1).ways(0), 1);
            due(withRows(5, 1).ways(5), 1);
        });
        says("Returns the number of ways;", () -> {
            due(new InterlockBoard().ways(0), 0);
            due(withRows(0, 1, 0xffe).ways(0), 2049);
        });
        says(" INVALID_ARGUMENT if motion is out of range;",
                () -> outOfRange(0, 5, motion -> withRows(0, 1).ways(motion)));
        says(" LIMIT_REACHED if its rows have more than 12 inputs together.", () -> {
            due(withRows(0, 0xfff).ways(0), 1);
            due(withRows(0, 0x1fff).ways(0), LIMIT);
            due(withRows(0, 0xfff, 0x1000).ways(0), LIMIT);
            due(withRows(0, 0x7ff, 0x8000).ways(0), 2049);
            due(withRows(0, 0xf, 0xf0, 0xf00, 0x8000).ways(0), LIMIT);
            due(withRows(0, 0xffff).ways(0), LIMIT);
            due(withRows(0, 0xffff).ways(1), 0);
        });
    }

    private static void waysAgain() {
        section("Promise 22: waysAgain");
        says("`int waysAgain(int motion)`: Counts the same ways by the sets of rows: for each set of "
                + "rows, not empty, 2 to the number of inputs that are in none of them, added if the "
                + "set has an odd number of rows, otherwise subtracted.", () -> {
            for (int index = 0; index < ROWS.length; index++) {
                due(withRows(2, ROWS[index]).waysAgain(2), WAYS[index]);
            }
            InterlockBoard b = withRows(2, 0b11, 0b110);
            b.input(1, 1);
            b.bridge(0, 1);
            due(b.waysAgain(2), 3);
        });
        says("`motion`: 0 to 5", () -> {
            due(withRows(0, 1).waysAgain(0), 1);
            due(withRows(5, 1).waysAgain(5), 1);
        });
        says("Returns the number of ways;", () -> {
            due(new InterlockBoard().waysAgain(0), 0);
            due(withRows(0, 1, 0xffe).waysAgain(0), 2049);
        });
        says(" INVALID_ARGUMENT if motion is out of range;",
                () -> outOfRange(0, 5, motion -> withRows(0, 1).waysAgain(motion)));
        says(" LIMIT_REACHED if its rows have more than 12 inputs together.", () -> {
            due(withRows(0, 0xfff).waysAgain(0), 1);
            due(withRows(0, 0x1fff).waysAgain(0), LIMIT);
            due(withRows(0, 0xfff, 0x1000).waysAgain(0), LIMIT);
            due(withRows(0, 0x7ff, 0x8000).waysAgain(0), 2049);
            due(withRows(0, 0xf, 0xf0, 0xf00, 0x8000).waysAgain(0), LIMIT);
            due(withRows(0, 0xffff).waysAgain(0), LIMIT);
            due(withRows(0, 0xffff).waysAgain(1), 0);
        });
    }

    private static void needed() {
        section("Promise 23: needed");
        says("`int needed(int motion)`: Tells which inputs a motion that is not permitted needs closed: "
                + "of its rows that with the fewest inputs that count as open,", () -> {
            InterlockBoard b = withRows(0, 0b1111, 0b0110, 0xfff0, 0x8001);
            b.input(0, 1);
            due(b.needed(0), 0x8000);
            b.input(2, 1);
            b.input(3, 1);
            b.bridge(1, 1);
            due(b.needed(0), 0);
            b.run(1);
            b.input(15, 0);
            b.input(0, 0);
            due(b.needed(0), 0b0010);
            b.input(2, 0);
            due(b.needed(0), 0b0110);
        });
        says(" of several the first one.", () -> {
            InterlockBoard b = withRows(0, 0b1100, 0b0010, 0b0001, 0b1000);
            due(b.needed(0), 0b0010);
            InterlockBoard other = withRows(5, 0x8000, 0b1);
            due(other.needed(5), 0x8000);
        });
        says("`motion`: 0 to 5", () -> {
            due(withRows(0, 1).needed(0), 1);
            due(withRows(5, 1).needed(5), 1);
        });
        says("Returns these inputs (those that count as open alone) as a bit mask,", () -> {
            InterlockBoard b = withRows(0, 0xffff);
            due(b.needed(0), 0xffff);
            b.input(0, 1);
            b.bridge(15, 1);
            due(b.needed(0), 0x7ffe);
            b.run(1);
            due(b.needed(0), 0xfffe);
        });
        says(" 0 if it is permitted;", () -> {
            InterlockBoard b = running(0);
            due(b.needed(0), 0);
            b.input(0, 0);
            due(b.needed(0), 1);
        });
        says(" INVALID_ARGUMENT if motion is out of range;",
                () -> outOfRange(0, 5, motion -> withRows(0, 1).needed(motion)));
        says(" NOT_FOUND if it has no rows.", () -> {
            InterlockBoard b = new InterlockBoard();
            due(b.needed(0), NOT_FOUND);
            due(b.needed(5), NOT_FOUND);
            b.sensor(0);
            b.row(0, 1);
            due(b.needed(0), 1);
            b.dropRows(0);
            due(b.needed(0), NOT_FOUND);
        });
    }
}
