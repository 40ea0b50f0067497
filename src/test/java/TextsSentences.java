/** Promises 30 to 33: type, clearText, fault, read. */
final class TextsSentences extends Sentences {
    static void test() {
        typing();
        clearText();
        faults();
        read();
    }

    private static void typing() {
        section("Promise 30: type");
        says("`int type(int character)`: Appends a character to the text.", () -> {
            InterlockBoard b = withSensors(1);
            b.type('0');
            b.type(':');
            b.type('0');
            dueFault(b, 0, 1);
            b.type(';');
            dueFault(b, NOT_FOUND, NOT_FOUND);
            b.type(';');
            dueFault(b, 4, 1);
        });
        says("`character`: its code, 32 to 126", () -> {
            InterlockBoard b = new InterlockBoard();
            due(b.type(32), 1);
            due(b.type(126), 2);
            for (int character = 33; character <= 109; character++) {
                due(b.type(character), character - 30);
            }
        });
        says("Returns the length of the text;", () -> {
            InterlockBoard b = new InterlockBoard();
            for (int length = 1; length <= 80; length++) {
                due(b.type(';'), length);
            }
        });
        says(" INVALID_ARGUMENT if character is out of range;", () -> {
            InterlockBoard b = new InterlockBoard();
            outOfRange(32, 126, character -> b.type(character));
            due(b.type(0), INVALID);
            due(b.type('0' + 256), INVALID);
            due(b.type('0' + 65536), INVALID);
            due(b.type('0' - 65536), INVALID);
            due(b.type('\n'), INVALID);
            due(b.count(15), 0);
        });
        says(" LIMIT_REACHED if the text has 80 characters.", () -> {
            InterlockBoard b = typed("0:0;".repeat(19) + "1:0");
            due(b.count(15), 79);
            due(b.type(';'), 80);
            due(b.type(';'), LIMIT);
            due(b.type(32), LIMIT);
            due(b.type(127), INVALID);
            due(b.count(15), 80);
            dueFault(b, 16, 4);
            b.clearText();
            due(b.type(';'), 1);
        });
    }

    private static void clearText() {
        section("Promise 31: clearText");
        says("`int clearText()`: Empties the text.", () -> {
            InterlockBoard b = typed("0:0;x");
            b.clearText();
            due(b.count(15), 0);
            dueFault(b, NOT_FOUND, NOT_FOUND);
            due(b.read(), 0);
            type(b, "1:1;");
            due(b.read(), 1);
            due(b.motion(0, 0), 0);
            due(b.motion(1, 8), 2);
        });
        says("Returns the length it had.", () -> {
            InterlockBoard b = new InterlockBoard();
            due(b.clearText(), 0);
            b.type('x');
            due(b.clearText(), 1);
            due(b.clearText(), 0);
            type(b, "0123456789".repeat(8));
            due(b.clearText(), 80);
            due(b.clearText(), 0);
        });
    }

    private static void faults() {
        section("Promise 32: fault");
        says("`int fault(int what)`: Tells about the fault of the text.", () -> {
            InterlockBoard b = typed("0:0;1:3;");
            due(b.fault(0), 4);
            due(b.fault(1), 2);
            b.sensor(0);
            due(b.fault(0), NOT_FOUND);
            due(b.fault(1), NOT_FOUND);
            b.undo();
            due(b.fault(0), 4);
        });
        says("`what`: 0: its position;", () -> {
            InterlockBoard b = typed("x");
            due(b.fault(0), 0);
            retype(b, "0:0;".repeat(4) + "1:0;".repeat(4) + "2:0;".repeat(4) + "3:0;".repeat(4)
                    + "4:0;".repeat(3) + "5:03");
            due(b.fault(0), 76);
        });
        says(" 1: its reason", () -> {
            InterlockBoard b = closedSensors(2);
            for (int row = 0; row < 4; row++) {
                b.row(0, 1);
            }
            b.row(1, 1);
            b.start(1);
            String[] texts = {"0:0", "0:2;", "1:0;", "0:0;"};
            for (int text = 0; text < 4; text++) {
                retype(b, texts[text]);
                due(b.fault(1), text + 1);
            }
        });
        tellsNoBoundary("Returns that;");
        says(" INVALID_ARGUMENT if what is out of range;", () -> {
            InterlockBoard b = typed("x");
            outOfRange(0, 1, what -> b.fault(what));
            b.clearText();
            outOfRange(0, 1, what -> b.fault(what));
        });
        says(" NOT_FOUND if the text has no fault", () -> {
            InterlockBoard b = typed("0:0;");
            due(b.fault(0), NOT_FOUND);
            due(b.fault(1), NOT_FOUND);
            retype(b, "0:0;0:1;0:2;0:00;1:02.2.02;5:0.1.2;");
            due(b.fault(0), NOT_FOUND);
            due(b.fault(1), NOT_FOUND);
        });
        says(" (also if it is empty).", () -> {
            InterlockBoard b = new InterlockBoard();
            due(b.fault(0), NOT_FOUND);
            due(b.fault(1), NOT_FOUND);
            b.type(';');
            due(b.fault(0), 0);
            b.clearText();
            due(b.fault(0), NOT_FOUND);
            due(b.fault(1), NOT_FOUND);
        });
    }

    private static void read() {
        section("Promise 33: read");
        says("`int read()`: Adds the rows of the text,", () -> {
            InterlockBoard b = withSensors(16);
            b.row(5, 1);
            type(b, "5:0.15;0:1.09;5:14;5:00;");
            due(b.read(), 4);
            int[] rows = {1, 0x8001, 1 << 14, 1};
            for (int row = 0; row < 4; row++) {
                due(b.motion(5, 8 + row), rows[row]);
            }
            due(b.motion(0, 0), 1);
            due(b.motion(0, 8), 1 << 1 | 1 << 9);
            due(b.count(14), 4);
            due(b.undo(), 3);
            due(b.motion(5, 0), 1);
            due(b.motion(0, 0), 0);
        });
        says(" which stays.", () -> {
            InterlockBoard b = typed("0:0;0:1;");
            for (int rows = 2; rows <= 4; rows += 2) {
                due(b.read(), 2);
                due(b.count(15), 8);
                due(b.motion(0, 0), rows);
            }
            dueFault(b, 0, 4);
            due(b.read(), NOT_POSSIBLE);
            due(b.count(15), 8);
        });
        says("Returns how many there are in it;", () -> {
            InterlockBoard b = withSensors(1);
            due(b.read(), 0);
            type(b, "0:0;");
            due(b.read(), 1);
            InterlockBoard full = withSensors(1);
            for (int motion = 0; motion < 5; motion++) {
                for (int row = 0; row < 4; row++) {
                    type(full, motion + ":0;");
                }
            }
            due(full.count(15), 80);
            due(full.read(), 20);
        });
        says(" NOT_POSSIBLE if it has a fault.", () -> {
            String[] wrong = {"0", ";", "0:3;", "0:0;0:3;", "0:0;0:1", "0:0;".repeat(5)};
            for (String text : wrong) {
                InterlockBoard b = typed(text);
                due(b.read(), NOT_POSSIBLE);
                due(b.motion(0, 0), 0);
                due(b.count(14), 3);
                due(b.count(15), text.length());
            }
            InterlockBoard b = running(3);
            type(b, "0:0;3:0;");
            due(b.read(), NOT_POSSIBLE);
            due(b.motion(0, 0), 0);
            b.stop(3);
            due(b.read(), 2);
        });
    }
}
