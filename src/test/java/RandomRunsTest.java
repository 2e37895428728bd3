import java.util.ArrayList;
import java.util.List;
import java.util.NoSuchElementException;
import java.util.Random;

/**
 * Runs of 512 calls with told seeds on the class and on the Model: every answer must be the same, and nothing
 * but the NoSuchElementException of time() may be thrown.
 */
public final class RandomRunsTest {
    private static final int RUNS = 600;
    private static final int CALLS = 512;
    private static final long THROWN = 1L << 40;
    private static final int[] ODD = {-1, -2, 0, 1, 2, 3, 4, 5, 7, 8, 9, 15, 16, 24, 25, 40, 41, 60, 61, -60, -61, 119, 120,
        255, 256, 9999, 10000, 20000, 20001, Integer.MIN_VALUE, Integer.MAX_VALUE, Integer.MIN_VALUE + 1, 1 << 30};

    private final Random random;
    private final int mostBits;
    private final OneHandset x = new OneHandset();
    private final Model y = new Model();
    private final List<String> calls = new ArrayList<>();

    private RandomRunsTest(long seed) {
        random = new Random(seed);
        mostBits = seed % 4 == 0 ? 8 : 6;
    }

    public static void main(String[] args) {
        for (int run = 0; run < RUNS; run++) {
            RandomRunsTest r = new RandomRunsTest(run);
            // a step makes no call, one or two
            for (int step = 0; step < 2 * CALLS && r.calls.size() < CALLS - 1 && r.call(); step++) {
                continue;
            }
        }
        Due.finish("RandomRunsTest");
    }

    /** A number of least .. most, now and then an odd one. */
    private int any(int least, int most) {
        return random.nextInt(25) == 0 ? ODD[random.nextInt(ODD.length)] : least + random.nextInt(most - least + 1);
    }

    private int aMake() {
        return any(0, Math.max(0, y.count(0) - 1));
    }

    private int aCode(int make) {
        return any(0, (1 << Math.max(1, y.of(make, 1))) - 1);
    }

    /** A TIME near those that the MAKES use. */
    private int aTime() {
        int t = new int[] {10, 20, 13, 100, 120, 200, 9999, 19998}[random.nextInt(8)];
        return random.nextInt(3) == 0 ? any(1, 240) : t;
    }

    private boolean same(String call, long got, long want) {
        calls.add(call + " = " + got);
        if (got == want) {
            Due.is(call, got, want);
            return true;
        }
        for (String c : calls) {
            System.out.println("  " + c);
        }
        Due.is(call, got, want);
        return false;
    }

    private boolean same(String call, boolean got, boolean want) {
        return same(call, got ? 1 : 0, want ? 1 : 0);
    }

    private boolean call() {
        int kind = random.nextInt(10);
        if (kind < 4) {
            return flashes();
        }
        return kind < 7 ? keys() : boxes();
    }

    private boolean flashes() {
        int m = aMake();
        int v;
        switch (random.nextInt(12)) {
            case 0: return aNewMake();
            case 1:
                v = any(0, 40);
                return same("set(" + m + ", 0, " + v + ")", x.set(m, 0, v), y.set(m, 0, v));
            case 2:
                int what = any(0, 1);
                v = any(-1, 7);
                if (random.nextInt(3) > 0) {
                    return true;
                }
                return same("set(" + m + ", " + what + ", " + v + ")", x.set(m, what, v), y.set(m, what, v));
            case 3: return fed();
            case 4:
                v = any(0, y.count(1));
                return same("end(" + v + ")", x.end(v), y.end(v));
            case 5:
            case 6:
                v = aCode(m);
                return same("send(" + m + ", " + v + ")", x.send(m, v), y.send(m, v));
            case 7: return timed(any(0, y.count(1)));
            case 8:
            case 9: return same("read(" + m + ")", x.read(m), y.read(m));
            case 10: return same("which()", x.which(), y.which());
            default:
                v = random.nextInt(3) == 0 ? any(-60, 60) : any(-20, 20);
                return same("stretch(" + v + ")", x.stretch(v), y.stretch(v));
        }
    }

    private boolean aNewMake() {
        int kind = any(0, 2);
        int n = any(1, mostBits);
        if (n > 10 && n < 25) {
            n = 10;
        }
        int a = aNumber();
        int b = aNumber();
        int p = aNumber();
        int z = aNumber();
        int o = aNumber();
        return same("make(" + kind + ", " + n + ", " + a + ", " + b + ", " + p + ", " + z + ", " + o + ")",
            x.make(kind, n, a, b, p, z, o), y.make(kind, n, a, b, p, z, o));
    }

    private int aNumber() {
        return random.nextInt(40) == 0 ? any(1, 9999) : new int[] {10, 12, 20, 100, 110, 120, 9999}[random.nextInt(7)];
    }

    private boolean fed() {
        int a = aTime();
        int b = aTime();
        int c = aTime();
        int d = aTime();
        int e = aTime();
        return same("feed(" + a + ", " + b + ", " + c + ", " + d + ", " + e + ")",
            x.feed(a, b, c, d, e), y.feed(a, b, c, d, e));
    }

    private boolean timed(int i) {
        long got;
        long want;
        try {
            got = x.time(i);
        } catch (NoSuchElementException e) {
            got = THROWN;
        }
        try {
            want = y.time(i);
        } catch (NoSuchElementException e) {
            want = THROWN;
        }
        return same("time(" + i + ")", got, want);
    }

    private boolean keys() {
        int m = aMake();
        int k = random.nextInt(3) > 0 ? any(0, 3) : any(0, 15);
        int v;
        switch (random.nextInt(12)) {
            case 0:
            case 1: return taught(m, k);
            case 2: return same("learn(" + m + ", " + k + ")", x.learn(m, k), y.learn(m, k));
            case 3: return same("forget(" + m + ", " + k + ")", x.forget(m, k), y.forget(m, k));
            case 4: return same("key(" + m + ", " + k + ")", x.key(m, k), y.key(m, k));
            case 5: return same("press(" + m + ", " + k + ")", x.press(m, k), y.press(m, k));
            case 6:
                v = any(0, 6);
                return same("of(" + m + ", " + v + ")", x.of(m, v), y.of(m, v));
            case 7:
            case 8:
                v = any(1, 3);
                return same("check(" + m + ", " + v + ")", x.check(m, v), y.check(m, v));
            case 9: return same("many(" + m + ")", x.many(m), y.many(m));
            case 10:
                v = any(0, Math.max(1, y.many(m)));
                return same("foreseen(" + m + ", " + v + ")", x.foreseen(m, v), y.foreseen(m, v));
            default:
                v = aMake();
                return same("both(" + m + ", " + v + ")", x.both(m, v), y.both(m, v));
        }
    }

    /** Teaches a CODE, often one for which a CHECK may hold with those that were LEARNT before. */
    private boolean taught(int m, int k) {
        int code = aCode(m);
        int n = y.of(m, 1);
        if (n > 4 && code >= 0 && code < 1 << n) {
            int upper = code >> 4;
            switch (random.nextInt(4)) {
                case 0: code = upper << 4 | (upper & 15) + (upper >> 4) + 3 & 15; break;
                case 1: code = upper << 4 | (upper & 15 ^ upper >> 4 ^ 3) & 15; break;
                case 2: code = code >> n / 2 << n / 2 | ~(code >> n / 2) & (1 << n / 2) - 1; break;
                default: break;
            }
        }
        return same("send(" + m + ", " + code + ")", x.send(m, code), y.send(m, code))
            && same("learn(" + m + ", " + k + ")", x.learn(m, k), y.learn(m, k));
    }

    private boolean boxes() {
        int b = any(0, 3);
        int k = Math.max(1, y.told(b, 0));
        int m = Math.max(1, y.told(b, 1));
        int set = random.nextInt(2) == 0 ? any(1, (1 << k) - 1) : 1 << random.nextInt(k);
        int v;
        switch (random.nextInt(16)) {
            case 0: return random.nextInt(3) > 0 || aNewBox(b);
            case 1: return same("maybe(" + b + ", " + set + ")", x.maybe(b, set), y.maybe(b, set));
            case 2:
                v = any(0, m - 1);
                return same("push(" + b + ", " + v + ")", x.push(b, v), y.push(b, v));
            case 3:
            case 4:
            case 5: return same("way(" + b + ", " + set + ")", x.way(b, set), y.way(b, set));
            case 6:
            case 7:
                v = any(0, Math.max(1, y.count(2)));
                return same("button(" + v + ")", x.button(v), y.button(v));
            case 8:
                v = any(0, 2);
                return same("told(" + b + ", " + v + ")", x.told(b, v), y.told(b, v));
            case 9:
                v = any(0, 2);
                return same("count(" + v + ")", x.count(v), y.count(v));
            default:
                int state = any(0, k - 1);
                int button = any(0, m - 1);
                int to = any(0, k - 1);
                return same("lead(" + b + ", " + state + ", " + button + ", " + to + ")",
                    x.lead(b, state, button, to), y.lead(b, state, button, to));
        }
    }

    private boolean aNewBox(int b) {
        int k = any(1, 8);
        int m = any(1, 4);
        return same("box(" + b + ", " + k + ", " + m + ")", x.box(b, k, m), y.box(b, k, m));
    }
}
