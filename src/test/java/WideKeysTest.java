import java.util.Random;

/** KEYS of MAKES of up to 24 bits, compared with the Model, which tries every CODE. */
public final class WideKeysTest {
    private static final int RUNS = 60;

    public static void main(String[] args) {
        for (int seed = 0; seed < RUNS; seed++) {
            run(new Random(seed), 5 + seed % 20);
        }
        Due.finish("WideKeysTest");
    }

    private static void run(Random random, int n) {
        OneHandset x = new OneHandset();
        Model y = new Model();
        int flip = random.nextInt(3) == 0 ? random.nextInt(n) : -1;
        int like = random.nextInt(1 << n);
        int free = random.nextInt(1 << n) & random.nextInt(1 << n) | 15;
        int rule = random.nextInt(4);
        for (int make = 0; make < 2; make++) {
            x.make(make, n, 900, 450, 56, 60, 168);
            y.make(make, n, 900, 450, 56, 60, 168);
            x.set(make, 1, flip);
            y.set(make, 1, flip);
            for (int key = 0; key < 2 + random.nextInt(3); key++) {
                int code = checked(rule, n, like & ~free | random.nextInt(1 << n) & free);
                x.send(make, code);
                Due.is("read of " + n + " bits", x.read(make), code);
                x.learn(make, key);
                y.teach(make, key, code);
                Due.is("key", x.key(make, key), y.key(make, key));
            }
            compare(x, y, make, random);
        }
        Due.is("both(0, 1)", x.both(0, 1), y.both(0, 1));
        Due.is("both(1, 0)", x.both(1, 0), y.both(1, 0));
    }

    private static void compare(OneHandset x, Model y, int make, Random random) {
        Due.is("FIXED", x.of(make, 5), y.of(make, 5));
        for (int rule = 1; rule <= 3; rule++) {
            Due.is("check " + rule, x.check(make, rule), y.check(make, rule));
        }
        int many = y.many(make);
        Due.is("many", x.many(make), many);
        for (int i : new int[] {0, many - 1, many, random.nextInt(Math.max(1, many))}) {
            Due.is("foreseen " + i, x.foreseen(make, i), y.foreseen(make, i));
        }
    }

    /** The CODE with its lowest bits changed so that a CHECK is true of it (c 6). */
    private static int checked(int rule, int n, int code) {
        int sum = 6;
        int odd = 6;
        for (int rest = code >> 4; rest > 0; rest >>= 4) {
            sum += rest & 15;
            odd ^= rest & 15;
        }
        switch (rule) {
            case 1: return code & ~15 | sum & 15;
            case 2: return code & ~15 | odd;
            case 3: return n % 2 == 0 ? code >> n / 2 << n / 2 | ~(code >> n / 2) & (1 << n / 2) - 1 : code;
            default: return code;
        }
    }
}
