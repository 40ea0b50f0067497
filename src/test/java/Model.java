import java.util.ArrayList;
import java.util.List;
import java.util.TreeSet;
import java.util.regex.Matcher;
import java.util.regex.Pattern;

/**
 * The document once more, written for plainness and in other terms than the program: bridges and
 * tests by the ticks in which they end, keys by their places, sets as sets, states as copies.
 * ModelTest compares the program with it.
 */
final class Model {
    private static final int INVALID = -1;
    private static final int NOT_POSSIBLE = -2;
    private static final int LIMIT = -3;
    private static final int NOT_FOUND = -4;

    private static final class Input {
        boolean lock;
        int key = -1;
        int guard = -1;
        boolean sensorClosed;
        boolean essential;
        int interval;
        int tested;
        int bridgeEnd = -1;
        int bridgedTicks;
        int testBegin = -1;
        boolean openedInTest;

        Input copy() {
            Input it = new Input();
            it.lock = lock;
            it.key = key;
            it.guard = guard;
            it.sensorClosed = sensorClosed;
            it.essential = essential;
            it.interval = interval;
            it.tested = tested;
            it.bridgeEnd = bridgeEnd;
            it.bridgedTicks = bridgedTicks;
            it.testBegin = testBegin;
            it.openedInTest = openedInTest;
            return it;
        }
    }

    private static final class Motion {
        List<TreeSet<Integer>> rows = new ArrayList<>();
        boolean runs;
        Integer firstOut;
        Integer stoppedIn;
        int ticksInAll;
        int ticksAtStart;
        int starts;
        int stops;

        Motion copy() {
            Motion it = new Motion();
            for (TreeSet<Integer> row : rows) {
                it.rows.add(new TreeSet<>(row));
            }
            it.runs = runs;
            it.firstOut = firstOut;
            it.stoppedIn = stoppedIn;
            it.ticksInAll = ticksInAll;
            it.ticksAtStart = ticksAtStart;
            it.starts = starts;
            it.stops = stops;
            return it;
        }
    }

    private static final class Board {
        List<Input> inputs = new ArrayList<>();
        Integer[] keyPlace = new Integer[6];
        Motion[] motions = new Motion[6];
        boolean[][] excludes = new boolean[6][6];
        int ticks;
        int testsDone;

        Board copy() {
            Board it = new Board();
            for (Input input : inputs) {
                it.inputs.add(input.copy());
            }
            it.keyPlace = keyPlace.clone();
            for (int m = 0; m < 6; m++) {
                it.motions[m] = motions[m].copy();
                it.excludes[m] = excludes[m].clone();
            }
            it.ticks = ticks;
            it.testsDone = testsDone;
            return it;
        }
    }

    private Board board = new Board();
    private final List<Board> history = new ArrayList<>();
    private final Board[] snapshots = new Board[2];
    private String text = "";

    Model() {
        for (int m = 0; m < 6; m++) {
            board.motions[m] = new Motion();
        }
    }

    private void change() {
        history.add(board.copy());
        if (history.size() == 5) {
            history.remove(0);
        }
    }

    private boolean noInput(int number) {
        return number < 0 || number >= board.inputs.size();
    }

    private static boolean outOf(int number, int least, int most) {
        return number < least || number > most;
    }

    private boolean closed(int number) {
        Input it = board.inputs.get(number);
        if (!it.lock) {
            return it.sensorClosed;
        }
        Integer place = board.keyPlace[it.key];
        return place != null && place == number;
    }

    private boolean overdue(int number) {
        Input it = board.inputs.get(number);
        return it.interval > 0 && board.ticks > it.tested + it.interval;
    }

    private boolean isBridged(int number) {
        return board.inputs.get(number).bridgeEnd > board.ticks;
    }

    private boolean counts(int number) {
        return isBridged(number) || (closed(number) && !overdue(number));
    }

    private TreeSet<Integer> allThatCount() {
        TreeSet<Integer> all = new TreeSet<>();
        for (int number = 0; number < board.inputs.size(); number++) {
            if (counts(number)) {
                all.add(number);
            }
        }
        return all;
    }

    private boolean permitted(int m) {
        return board.motions[m].rows.stream().anyMatch(row -> allThatCount().containsAll(row));
    }

    private int bridgedNow() {
        int number = 0;
        for (int input = 0; input < board.inputs.size(); input++) {
            number += isBridged(input) ? 1 : 0;
        }
        return number;
    }

    private int running() {
        int number = 0;
        for (Motion motion : board.motions) {
            number += motion.runs ? 1 : 0;
        }
        return number;
    }

    private int look(TreeSet<Integer> before) {
        int stopped = 0;
        for (int m = 0; m < 6; m++) {
            Motion motion = board.motions[m];
            if (!motion.runs || permitted(m)) {
                continue;
            }
            TreeSet<Integer> open = new TreeSet<>();
            motion.rows.forEach(open::addAll);
            open.removeAll(allThatCount());
            TreeSet<Integer> opened = new TreeSet<>(open);
            opened.retainAll(before);
            motion.runs = false;
            motion.firstOut = opened.isEmpty() ? open.first() : opened.first();
            motion.stoppedIn = board.ticks;
            motion.stops++;
            stopped++;
        }
        return stopped;
    }

    int sensor(int interval) {
        if (outOf(interval, 0, 5000)) {
            return INVALID;
        }
        if (board.inputs.size() == 16) {
            return LIMIT;
        }
        change();
        Input it = new Input();
        it.interval = interval;
        it.tested = board.ticks;
        board.inputs.add(it);
        return board.inputs.size() - 1;
    }

    int lock(int key, int guard) {
        if (outOf(key, 0, 5) || (guard != -1 && noInput(guard))) {
            return INVALID;
        }
        if (board.inputs.size() == 16) {
            return LIMIT;
        }
        change();
        Input it = new Input();
        it.lock = true;
        it.key = key;
        it.guard = guard;
        it.tested = board.ticks;
        board.inputs.add(it);
        return board.inputs.size() - 1;
    }

    int essential(int input, int is) {
        if (noInput(input) || outOf(is, 0, 1)) {
            return INVALID;
        }
        if (is == 1 && isBridged(input)) {
            return NOT_POSSIBLE;
        }
        change();
        int was = board.inputs.get(input).essential ? 1 : 0;
        board.inputs.get(input).essential = is == 1;
        return was;
    }

    int input(int input, int closed) {
        if (noInput(input) || outOf(closed, 0, 1)) {
            return INVALID;
        }
        if (board.inputs.get(input).lock) {
            return NOT_POSSIBLE;
        }
        change();
        TreeSet<Integer> before = allThatCount();
        Input it = board.inputs.get(input);
        it.sensorClosed = closed == 1;
        if (it.testBegin >= 0 && closed == 0) {
            it.openedInTest = true;
        }
        if (it.testBegin >= 0 && closed == 1 && it.openedInTest) {
            it.testBegin = -1;
            it.openedInTest = false;
            it.tested = board.ticks;
            board.testsDone++;
        }
        return look(before);
    }

    int inputInfo(int input, int what) {
        if (noInput(input) || outOf(what, 0, 11)) {
            return INVALID;
        }
        Input it = board.inputs.get(input);
        int phase = it.testBegin < 0 ? 0 : it.openedInTest ? 2 : 1;
        int[] answers = {it.lock ? 1 : 0, closed(input) ? 1 : 0, counts(input) ? 1 : 0,
            it.essential ? 1 : 0, overdue(input) ? 1 : 0, it.interval, it.tested,
            isBridged(input) ? it.bridgeEnd - board.ticks : 0, it.bridgedTicks, phase,
            it.lock ? it.key : NOT_FOUND, it.guard >= 0 ? it.guard : NOT_FOUND};
        return answers[what];
    }

    private int keysIn() {
        int number = 0;
        for (Integer place : board.keyPlace) {
            number += place != null ? 1 : 0;
        }
        return number;
    }

    int keyIn(int key, int input) {
        if (outOf(key, 0, 5) || noInput(input)) {
            return INVALID;
        }
        Input it = board.inputs.get(input);
        if (board.keyPlace[key] != null || !it.lock || it.key != key) {
            return NOT_POSSIBLE;
        }
        change();
        board.keyPlace[key] = input;
        return keysIn();
    }

    int keyOut(int key) {
        if (outOf(key, 0, 5)) {
            return INVALID;
        }
        if (board.keyPlace[key] == null) {
            return NOT_POSSIBLE;
        }
        int guard = board.inputs.get(board.keyPlace[key]).guard;
        if (guard >= 0 && !counts(guard)) {
            return NOT_POSSIBLE;
        }
        change();
        TreeSet<Integer> before = allThatCount();
        board.keyPlace[key] = null;
        return look(before);
    }

    int key(int key) {
        if (outOf(key, 0, 5)) {
            return INVALID;
        }
        return board.keyPlace[key] == null ? NOT_FOUND : board.keyPlace[key];
    }

    int bridge(int input, int ticks) {
        if (noInput(input) || outOf(ticks, 1, 500)) {
            return INVALID;
        }
        if (board.inputs.get(input).essential || isBridged(input)) {
            return NOT_POSSIBLE;
        }
        if (bridgedNow() == 3) {
            return LIMIT;
        }
        change();
        board.inputs.get(input).bridgeEnd = board.ticks + ticks;
        return bridgedNow();
    }

    int unbridge(int input) {
        if (noInput(input)) {
            return INVALID;
        }
        if (!isBridged(input)) {
            return NOT_POSSIBLE;
        }
        change();
        TreeSet<Integer> before = allThatCount();
        board.inputs.get(input).bridgeEnd = -1;
        return look(before);
    }

    int bridged(int place) {
        if (place < 0) {
            return INVALID;
        }
        List<Integer> inOrder = new ArrayList<>();
        for (int end = board.ticks + 1; end <= board.ticks + 500; end++) {
            for (int input = 0; input < board.inputs.size(); input++) {
                if (board.inputs.get(input).bridgeEnd == end) {
                    inOrder.add(input);
                }
            }
        }
        return place < inOrder.size() ? inOrder.get(place) : NOT_FOUND;
    }

    private static int mask(Iterable<Integer> set) {
        int mask = 0;
        for (int member : set) {
            mask |= 1 << member;
        }
        return mask;
    }

    private static TreeSet<Integer> members(int mask) {
        TreeSet<Integer> set = new TreeSet<>();
        for (int member = 0; member < 32; member++) {
            if ((mask >>> member) % 2 == 1) {
                set.add(member);
            }
        }
        return set;
    }

    int row(int motion, int inputs) {
        if (outOf(motion, 0, 5) || inputs <= 0 || inputs >= Math.pow(2, board.inputs.size())) {
            return INVALID;
        }
        if (board.motions[motion].runs) {
            return NOT_POSSIBLE;
        }
        if (board.motions[motion].rows.size() == 4) {
            return LIMIT;
        }
        change();
        board.motions[motion].rows.add(members(inputs));
        return board.motions[motion].rows.size();
    }

    int dropRows(int motion) {
        if (outOf(motion, 0, 5)) {
            return INVALID;
        }
        if (board.motions[motion].runs) {
            return NOT_POSSIBLE;
        }
        change();
        int rows = board.motions[motion].rows.size();
        board.motions[motion].rows.clear();
        return rows;
    }

    int exclude(int a, int b, int is) {
        if (outOf(a, 0, 5) || outOf(b, 0, 5) || outOf(is, 0, 1) || a == b) {
            return INVALID;
        }
        if (is == 1 && board.motions[a].runs && board.motions[b].runs) {
            return NOT_POSSIBLE;
        }
        change();
        int was = board.excludes[a][b] ? 1 : 0;
        board.excludes[a][b] = is == 1;
        board.excludes[b][a] = is == 1;
        return was;
    }

    int why(int motion) {
        if (outOf(motion, 0, 5)) {
            return INVALID;
        }
        if (board.motions[motion].runs) {
            return 1;
        }
        if (board.motions[motion].firstOut != null) {
            return 2;
        }
        if (!permitted(motion)) {
            return 3;
        }
        for (int other = 0; other < 6; other++) {
            if (board.excludes[motion][other] && board.motions[other].runs) {
                return 4;
            }
        }
        return 0;
    }

    int start(int motion) {
        if (outOf(motion, 0, 5)) {
            return INVALID;
        }
        if (why(motion) != 0) {
            return NOT_POSSIBLE;
        }
        change();
        Motion it = board.motions[motion];
        it.runs = true;
        it.starts++;
        it.ticksAtStart = it.ticksInAll;
        return running();
    }

    int stop(int motion) {
        if (outOf(motion, 0, 5)) {
            return INVALID;
        }
        Motion it = board.motions[motion];
        if (!it.runs) {
            return NOT_POSSIBLE;
        }
        change();
        it.runs = false;
        return it.ticksInAll - it.ticksAtStart;
    }

    int reset(int motion) {
        if (outOf(motion, 0, 5)) {
            return INVALID;
        }
        Integer firstOut = board.motions[motion].firstOut;
        if (firstOut == null) {
            return NOT_POSSIBLE;
        }
        change();
        board.motions[motion].firstOut = null;
        return firstOut;
    }

    int motion(int motion, int what) {
        if (outOf(motion, 0, 5) || outOf(what, 0, 12)) {
            return INVALID;
        }
        Motion it = board.motions[motion];
        if (what >= 8 && what <= 11) {
            return what - 8 < it.rows.size() ? mask(it.rows.get(what - 8)) : NOT_FOUND;
        }
        TreeSet<Integer> excluders = new TreeSet<>();
        for (int other = 0; other < 6; other++) {
            if (board.excludes[other][motion]) {
                excluders.add(other);
            }
        }
        int[] answers = {it.rows.size(), permitted(motion) ? 1 : 0, it.runs ? 1 : 0,
            it.firstOut == null ? NOT_FOUND : it.firstOut,
            it.stoppedIn == null ? NOT_FOUND : it.stoppedIn,
            it.ticksInAll, it.starts, it.stops, 0, 0, 0, 0, mask(excluders)};
        return answers[what];
    }

    int ways(int motion) {
        if (outOf(motion, 0, 5)) {
            return INVALID;
        }
        TreeSet<Integer> all = new TreeSet<>();
        board.motions[motion].rows.forEach(all::addAll);
        return all.size() > 12 ? LIMIT : waysOf(new ArrayList<>(all), board.motions[motion].rows);
    }

    /** The ways with the first input closed and those with it open, until none is left. */
    private static int waysOf(List<Integer> free, List<TreeSet<Integer>> rows) {
        if (rows.isEmpty()) {
            return 0;
        }
        if (free.isEmpty()) {
            return 1;
        }
        Integer first = free.get(0);
        List<TreeSet<Integer>> ifClosed = new ArrayList<>();
        List<TreeSet<Integer>> ifOpen = new ArrayList<>();
        for (TreeSet<Integer> row : rows) {
            TreeSet<Integer> rest = new TreeSet<>(row);
            if (!rest.remove(first)) {
                ifOpen.add(row);
            }
            ifClosed.add(rest);
        }
        List<Integer> others = free.subList(1, free.size());
        return waysOf(others, ifClosed) + waysOf(others, ifOpen);
    }

    int waysAgain(int motion) {
        return ways(motion);
    }

    int needed(int motion) {
        if (outOf(motion, 0, 5)) {
            return INVALID;
        }
        TreeSet<Integer> best = null;
        for (TreeSet<Integer> row : board.motions[motion].rows) {
            TreeSet<Integer> open = new TreeSet<>(row);
            open.removeAll(allThatCount());
            if (best == null || open.size() < best.size()) {
                best = open;
            }
        }
        return best == null ? NOT_FOUND : mask(best);
    }

    int test(int input) {
        if (noInput(input)) {
            return INVALID;
        }
        Input it = board.inputs.get(input);
        if (it.lock || !it.sensorClosed || it.testBegin >= 0) {
            return NOT_POSSIBLE;
        }
        change();
        it.testBegin = board.ticks;
        it.openedInTest = false;
        return board.ticks + 20;
    }

    int run(int ticks) {
        if (outOf(ticks, 1, 500)) {
            return INVALID;
        }
        if (board.ticks + ticks > 100000) {
            return LIMIT;
        }
        change();
        int stopped = 0;
        for (int tick = 0; tick < ticks; tick++) {
            stopped += tick();
        }
        return stopped;
    }

    private int tick() {
        TreeSet<Integer> before = allThatCount();
        for (int input = 0; input < board.inputs.size(); input++) {
            board.inputs.get(input).bridgedTicks += isBridged(input) ? 1 : 0;
        }
        board.ticks++;
        for (Input it : board.inputs) {
            if (it.testBegin >= 0 && board.ticks == it.testBegin + 21) {
                it.testBegin = -1;
                it.openedInTest = false;
            }
        }
        int stopped = look(before);
        for (Motion motion : board.motions) {
            motion.ticksInAll += motion.runs ? 1 : 0;
        }
        return stopped;
    }

    int count(int what) {
        if (outOf(what, 0, 16)) {
            return INVALID;
        }
        int[] answers = new int[17];
        answers[0] = board.inputs.size();
        answers[1] = allThatCount().size();
        for (int input = 0; input < board.inputs.size(); input++) {
            answers[2] += overdue(input) ? 1 : 0;
            answers[12] += board.inputs.get(input).bridgedTicks;
        }
        answers[3] = bridgedNow();
        answers[4] = keysIn();
        answers[5] = running();
        for (int m = 0; m < 6; m++) {
            Motion it = board.motions[m];
            answers[6] += permitted(m) ? 1 : 0;
            answers[7] += it.firstOut != null ? 1 : 0;
            answers[9] += it.ticksInAll;
            answers[10] += it.starts;
            answers[11] += it.stops;
        }
        answers[8] = board.ticks;
        answers[13] = board.testsDone;
        answers[14] = history.size();
        answers[15] = text.length();
        answers[16] = (snapshots[0] != null ? 1 : 0) + (snapshots[1] != null ? 1 : 0);
        return answers[what];
    }

    int snapshot(int place) {
        if (outOf(place, 0, 1)) {
            return INVALID;
        }
        snapshots[place] = board.copy();
        return count(16);
    }

    int restore(int place) {
        if (outOf(place, 0, 1)) {
            return INVALID;
        }
        if (snapshots[place] == null) {
            return NOT_POSSIBLE;
        }
        change();
        board = snapshots[place].copy();
        return board.ticks;
    }

    int undo() {
        if (history.isEmpty()) {
            return NOT_POSSIBLE;
        }
        board = history.remove(history.size() - 1);
        return history.size();
    }

    int type(int character) {
        if (outOf(character, 32, 126)) {
            return INVALID;
        }
        if (text.length() == 80) {
            return LIMIT;
        }
        text += (char) character;
        return text.length();
    }

    int clearText() {
        int length = text.length();
        text = "";
        return length;
    }

    private static final Pattern ROW = Pattern.compile("([0-5]):([0-9]{1,2}(?:\\.[0-9]{1,2})*);");

    private static TreeSet<Integer> inputsOf(String names) {
        TreeSet<Integer> inputs = new TreeSet<>();
        for (String name : names.split("\\.")) {
            inputs.add(Integer.parseInt(name));
        }
        return inputs;
    }

    /** Position and reason; null if there is no fault. */
    private int[] faultOfText() {
        int[] rows = new int[6];
        for (int m = 0; m < 6; m++) {
            rows[m] = board.motions[m].rows.size();
        }
        Matcher matcher = ROW.matcher(text);
        int position = 0;
        while (position < text.length()) {
            matcher.region(position, text.length());
            if (!matcher.lookingAt()) {
                return new int[] {position, 1};
            }
            int m = Integer.parseInt(matcher.group(1));
            if (inputsOf(matcher.group(2)).last() >= board.inputs.size()) {
                return new int[] {position, 2};
            }
            if (board.motions[m].runs) {
                return new int[] {position, 3};
            }
            rows[m]++;
            if (rows[m] > 4) {
                return new int[] {position, 4};
            }
            position = matcher.end();
        }
        return null;
    }

    int fault(int what) {
        if (outOf(what, 0, 1)) {
            return INVALID;
        }
        int[] fault = faultOfText();
        return fault == null ? NOT_FOUND : fault[what];
    }

    int read() {
        if (faultOfText() != null) {
            return NOT_POSSIBLE;
        }
        change();
        int rows = 0;
        Matcher matcher = ROW.matcher(text);
        while (matcher.find()) {
            int m = Integer.parseInt(matcher.group(1));
            board.motions[m].rows.add(inputsOf(matcher.group(2)));
            rows++;
        }
        return rows;
    }
}
