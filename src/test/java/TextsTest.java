/** Promises 30 to 33: type, clearText, fault, read. */
public final class TextsTest {
    private static final int INVALID = InterlockBoard.INVALID_ARGUMENT;
    private static final int NOT_POSSIBLE = InterlockBoard.NOT_POSSIBLE;
    private static final int LIMIT = InterlockBoard.LIMIT_REACHED;
    private static final int NOT_FOUND = InterlockBoard.NOT_FOUND;

    public static void main(String[] arguments) {
        type();
        clearText();
        wrongForms();
        rightForms();
        noSuchInput();
        motionRuns();
        tooManyRows();
        firstReasonFirst();
        firstRowFirst();
        faultFollowsTheBoard();
        read();
        readChangesNothingIfFaulty();
        readTwice();
        longestText();
        Checks.end("TextsTest");
    }

    private static void type() {
        InterlockBoard b = new InterlockBoard();
        Checks.due(b.type(31), INVALID);
        Checks.due(b.type(127), INVALID);
        Checks.due(b.type(-1), INVALID);
        Checks.due(b.type(48 + 65536), INVALID);
        Checks.due(b.count(15), 0);
        Checks.due(b.type(32), 1);
        Checks.due(b.type(126), 2);
        for (int length = 3; length <= 80; length++) {
            Checks.due(b.type('0'), length);
        }
        Checks.due(b.type('0'), LIMIT);
        Checks.due(b.type(127), INVALID);
        Checks.due(b.count(15), 80);
    }

    private static void clearText() {
        InterlockBoard b = Checks.withSensors(1);
        Checks.due(b.clearText(), 0);
        Checks.type(b, "0:9;");
        Checks.due(b.clearText(), 4);
        Checks.due(b.clearText(), 0);
        Checks.due(b.count(15), 0);
        Checks.due(b.fault(0), NOT_FOUND);
        Checks.due(b.type('5'), 1);
        Checks.due(b.type(':'), 2);
        Checks.due(b.fault(0), 0);
        Checks.due(b.fault(1), 1);
    }

    private static void dueFault(InterlockBoard b, String text, int position, int reason) {
        b.clearText();
        Checks.type(b, text);
        Checks.due(b.fault(0), position);
        Checks.due(b.fault(1), reason);
        Checks.due(b.fault(2), INVALID);
        Checks.due(b.fault(-1), INVALID);
    }

    private static void wrongForms() {
        InterlockBoard b = Checks.withSensors(16);
        String[] wrong = {
            ";", "0;", "0:;", ":;", ":0;", "0:.;", "0:0.;", "0:.0;", "0:0..1;", "0.0;",
            "6:0;", "9:0;", "/:0;", "a:0;", "00:0;", "0:000;", "0:001;", "0:1.100;", "0:a;",
            " 0:0;", "0 :0;", "0: 0;", "0:0 ;", "0:0 .1;", "0::0;", "0:0:1;", "0:0,1;", "0:-1;",
            "0:0", "0:", "0", "0:0.", "0:0.1", "~", "0;0:0;", "0:0.1:2;", "0:/;", "0::;", "0:+1;"};
        for (String text : wrong) {
            dueFault(b, text, 0, 1);
        }
    }

    private static void rightForms() {
        InterlockBoard b = Checks.withSensors(16);
        String[] right = {
            "0:0;", "5:15;", "0:00;", "3:09;", "0:0.1;", "0:1.0;", "0:1.1;", "0:01.1.001",
            "0:0.1.2.3.4.5.6.7.8.9.10.11.12.13.14.15;", "0:0;0:0;0:0;0:0;", ""};
        for (String text : right) {
            boolean rightOnly = !text.endsWith("001");
            dueFault(b, text, rightOnly ? NOT_FOUND : 0, rightOnly ? NOT_FOUND : 1);
        }
    }

    private static void noSuchInput() {
        InterlockBoard b = Checks.withSensors(3);
        dueFault(b, "0:3;", 0, 2);
        dueFault(b, "0:03;", 0, 2);
        dueFault(b, "0:2;", NOT_FOUND, NOT_FOUND);
        dueFault(b, "0:0.99;", 0, 2);
        dueFault(b, "0:99.0;", 0, 2);
        dueFault(b, "0:1.2;1:1.3.2;", 6, 2);
        dueFault(b, "0:20;", 0, 2);
        dueFault(b, "0:32;", 0, 2);
    }

    private static void motionRuns() {
        InterlockBoard b = Checks.withSensors(1);
        b.input(0, 1);
        b.row(2, 1);
        b.start(2);
        dueFault(b, "1:0;2:0;", 4, 3);
        dueFault(b, "1:0;3:0;", NOT_FOUND, NOT_FOUND);
        dueFault(b, "2:0;", 0, 3);
        b.stop(2);
        Checks.due(b.fault(0), NOT_FOUND);
    }

    private static void tooManyRows() {
        InterlockBoard b = Checks.withSensors(1);
        b.row(1, 1);
        b.row(1, 1);
        b.row(1, 1);
        dueFault(b, "1:0;", NOT_FOUND, NOT_FOUND);
        dueFault(b, "1:0;1:0;", 4, 4);
        dueFault(b, "1:0;0:0;0:0;0:0;0:0;1:0;", 20, 4);
        dueFault(b, "0:0;0:0;0:0;0:0;1:0;0:00;", 20, 4);
        b.row(1, 1);
        dueFault(b, "0:0;1:0;", 4, 4);
        b.dropRows(1);
        dueFault(b, "1:0;1:0;1:0;1:0;1:0;", 16, 4);
    }

    private static void firstReasonFirst() {
        InterlockBoard b = Checks.withSensors(1);
        b.input(0, 1);
        for (int row = 0; row < 4; row++) {
            b.row(0, 1);
        }
        dueFault(b, "0:0;", 0, 4);
        b.start(0);
        dueFault(b, "0:0;", 0, 3);
        dueFault(b, "0:1;", 0, 2);
        dueFault(b, "0:1.;", 0, 1);
        dueFault(b, "0:1", 0, 1);
    }

    private static void firstRowFirst() {
        InterlockBoard b = Checks.withSensors(1);
        b.input(0, 1);
        b.row(0, 1);
        b.start(0);
        dueFault(b, "1:0;0:0;1:1;x;", 4, 3);
        dueFault(b, "1:0;1:1;0:0;x;", 4, 2);
        dueFault(b, "1:00;x;0:0;", 5, 1);
        dueFault(b, "1:0;1:0", 4, 1);
        dueFault(b, "1:0;;", 4, 1);
        dueFault(b, "1:0; ", 4, 1);
    }

    private static void faultFollowsTheBoard() {
        InterlockBoard b = new InterlockBoard();
        dueFault(b, "4:1;", 0, 2);
        b.sensor(0);
        Checks.due(b.fault(1), 2);
        b.sensor(0);
        Checks.due(b.fault(1), NOT_FOUND);
        b.undo();
        Checks.due(b.fault(1), 2);
    }

    private static void read() {
        InterlockBoard b = Checks.withSensors(16);
        Checks.due(b.read(), 0);
        Checks.type(b, "0:0.2;5:15.1.015");
        Checks.due(b.read(), NOT_POSSIBLE);
        b.clearText();
        Checks.type(b, "0:0.2;5:15.1.15.01;0:10;");
        Checks.due(b.read(), 3);
        Checks.due(b.count(15), 24);
        Checks.due(b.motion(0, 0), 2);
        Checks.due(b.motion(0, 8), 5);
        Checks.due(b.motion(0, 9), 1024);
        Checks.due(b.motion(0, 10), NOT_FOUND);
        Checks.due(b.motion(5, 0), 1);
        Checks.due(b.motion(5, 8), 32770);
        Checks.due(b.undo(), 3);
        Checks.due(b.motion(0, 0), 0);
        Checks.due(b.count(15), 24);
    }

    private static void readChangesNothingIfFaulty() {
        InterlockBoard b = Checks.withSensors(2);
        Checks.type(b, "0:0;1:1;2:2;");
        Checks.due(b.read(), NOT_POSSIBLE);
        Checks.due(b.motion(0, 0), 0);
        Checks.due(b.motion(1, 0), 0);
        Checks.due(b.count(14), 2);
        b.sensor(0);
        Checks.due(b.read(), 3);
        Checks.due(b.motion(2, 8), 4);
    }

    private static void readTwice() {
        InterlockBoard b = Checks.withSensors(2);
        Checks.type(b, "0:0;0:1;");
        Checks.due(b.read(), 2);
        Checks.due(b.read(), 2);
        Checks.due(b.motion(0, 11), 2);
        Checks.due(b.fault(0), 0);
        Checks.due(b.fault(1), 4);
        Checks.due(b.read(), NOT_POSSIBLE);
        b.dropRows(0);
        Checks.due(b.read(), 2);
    }

    private static void longestText() {
        InterlockBoard b = Checks.withSensors(16);
        StringBuilder text = new StringBuilder();
        for (int row = 0; row < 20; row++) {
            text.append(row % 5).append(":0;");
        }
        Checks.due(Checks.type(b, text.toString()), 80);
        Checks.due(b.fault(0), NOT_FOUND);
        Checks.due(b.read(), 20);
        Checks.due(b.motion(4, 0), 4);
        Checks.due(b.motion(5, 0), 0);
        b.clearText();
        Checks.type(b, "5:0.1.2.3.4.5.6.7.8.9.10.11.12.13.14.15.15.15.15.15.15.15.15.15.15.15.15.15.15.15");
        Checks.due(b.count(15), 80);
        Checks.due(b.fault(1), 1);
        b.clearText();
        Checks.type(b, "5:00.1.2.3.4.5.6.7.8.9.10.11.12.13.14.15.15.15.15.15.15.15.15.15.15.15.15.15.01;");
        Checks.due(b.count(15), 80);
        Checks.due(b.fault(1), NOT_FOUND);
        Checks.due(b.read(), 1);
        Checks.due(b.motion(5, 8), 65535);
    }
}
