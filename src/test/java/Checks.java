/** What the tests share: answers are compared with those that are due, wrong ones are printed. */
class Checks {
    /** The longest test takes some seconds; a call that does not end is to fail, not to hang. */
    private static final long LONGEST_MILLIS = 300_000;

    private static int made = 0;
    private static int wrong = 0;

    static {
        Thread watch = new Thread(Checks::failLate);
        watch.setDaemon(true);
        watch.start();
    }

    private static void failLate() {
        try {
            Thread.sleep(LONGEST_MILLIS);
        } catch (InterruptedException ended) {
            return;
        }
        System.out.println("a call has not ended");
        System.out.flush();
        Runtime.getRuntime().halt(1);
    }

    static void due(int answer, int due) {
        made++;
        if (answer != due) {
            wrong++;
            StackWalker.StackFrame caller = StackWalker.getInstance().walk(frames ->
                    frames.filter(frame -> !isHelper(frame.getClassName())).findFirst().get());
            System.out.println(caller.getFileName() + ":" + caller.getLineNumber()
                    + ": answered " + answer + ", due is " + due);
        }
    }

    private static boolean isHelper(String className) {
        return className.equals("Checks") || className.equals("Sentences");
    }

    static void fault(String whatIsWrong) {
        wrong++;
        System.out.println(whatIsWrong);
    }

    static int wrongSoFar() {
        return wrong;
    }

    /** Ends the test with exit code 1 if an answer was wrong. */
    static void end(String test) {
        System.out.println(test + ": " + made + " answers, " + wrong + " wrong");
        if (wrong != 0) {
            System.exit(1);
        }
    }

    /** A board with so many sensors that need no tests, all open. */
    static InterlockBoard withSensors(int sensors) {
        InterlockBoard board = new InterlockBoard();
        for (int sensor = 0; sensor < sensors; sensor++) {
            board.sensor(0);
        }
        return board;
    }

    static void runTicks(InterlockBoard board, int ticks) {
        int left = ticks;
        while (left > 0) {
            int step = Math.min(left, 500);
            board.run(step);
            left -= step;
        }
    }

    static int type(InterlockBoard board, String text) {
        int length = 0;
        for (char sign : text.toCharArray()) {
            length = board.type(sign);
        }
        return length;
    }
}
