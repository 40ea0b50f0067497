import java.util.Random;

/**
 * Rule 7 of LANGUAGE.md: no call throws or fails to end, for any arguments in any state. The runs
 * are longer than the 512 calls for which answers are promised, so no answer is looked at.
 */
public final class NeverThrowsTest {
    private static final int BOARDS = 40;
    private static final int CALLS = 20000;
    private static final int[] WILD = {
        Integer.MIN_VALUE, Integer.MIN_VALUE + 1, -65536, -32, -2, -1, 16, 17, 31, 32, 33, 64, 80, 126,
        127, 255, 256, 500, 501, 5000, 5001, 65535, 65536, 1 << 30, Integer.MAX_VALUE};

    private final Random random;
    private final InterlockBoard board = new InterlockBoard();

    private NeverThrowsTest(long seed) {
        random = new Random(seed);
    }

    public static void main(String[] arguments) {
        for (int seed = 0; seed < BOARDS; seed++) {
            NeverThrowsTest it = new NeverThrowsTest(seed);
            for (int call = 0; call < CALLS; call++) {
                it.call(it.random.nextInt(40));
            }
        }
        Checks.end("NeverThrowsTest");
    }

    private int any(int most) {
        return random.nextInt(12) == 0 ? WILD[random.nextInt(WILD.length)] : random.nextInt(most + 1);
    }

    private void call(int which) {
        switch (which) {
            case 0: board.sensor(any(60)); break;
            case 1: board.lock(any(5), any(15) - 1); break;
            case 2: board.essential(any(15), any(1)); break;
            case 3: case 4: board.input(any(15), any(1)); break;
            case 5: board.inputInfo(any(15), any(11)); break;
            case 6: board.keyIn(any(5), any(15)); break;
            case 7: board.keyOut(any(5)); break;
            case 8: board.key(any(5)); break;
            case 9: board.bridge(any(15), any(40)); break;
            case 10: board.unbridge(any(15)); break;
            case 11: board.bridged(any(3)); break;
            case 12: board.row(any(5), any(65535)); break;
            case 13: board.row(any(5), 1 << any(15)); break;
            case 14: board.dropRows(any(5)); break;
            case 15: board.exclude(any(5), any(5), any(1)); break;
            case 16: board.start(any(5)); break;
            case 17: board.why(any(5)); break;
            case 18: board.stop(any(5)); break;
            case 19: board.reset(any(5)); break;
            case 20: board.motion(any(5), any(12)); break;
            case 21: board.ways(any(5)); break;
            case 22: board.waysAgain(any(5)); break;
            case 23: board.needed(any(5)); break;
            case 24: board.test(any(15)); break;
            case 25: board.run(any(30)); break;
            case 26: board.count(any(16)); break;
            case 27: board.snapshot(any(1)); break;
            case 28: board.restore(any(1)); break;
            case 29: board.undo(); break;
            case 30: board.clearText(); break;
            case 31: board.fault(any(1)); break;
            case 32: board.read(); break;
            default: typeSome();
        }
    }

    private void typeSome() {
        String some = random.nextBoolean() ? "0123456789:.;; ~" : any(5) + ":" + any(15) + ";";
        if (some.length() > 10) {
            board.type(random.nextInt(9) == 0 ? any(200) : some.charAt(random.nextInt(some.length())));
            return;
        }
        for (int at = 0; at < some.length(); at++) {
            board.type(some.charAt(at));
        }
    }
}
