import java.util.Arrays;

/**
 * Every tape of up to ten TIMES, each p or twice p, READ by MAKES of KIND 2 of up to five bits. What is due is told
 * without reading: the FAULT is at the first TIME with which no CODE's HALVES begin any more.
 */
public final class EveryHalvesTapeTest {
    private static final int P = 100;
    private static final int BITS_MOST = 5;
    private static final int TIMES_MOST = 10;

    public static void main(String[] args) {
        for (int bits = 1; bits <= BITS_MOST; bits++) {
            for (int size = 0; size <= Math.min(TIMES_MOST, 2 * bits + 3); size++) {
                for (int doubled = 0; doubled < 1 << size; doubled++) {
                    compare(bits, size, doubled);
                }
            }
        }
        Due.finish("EveryHalvesTapeTest");
    }

    /** The TIMES whose bit is in doubled are twice p. */
    private static void compare(int bits, int size, int doubled) {
        OneHandset x = new OneHandset();
        x.make(2, bits, 1, 1, P, 1, 2);
        int[] times = new int[size];
        for (int i = 0; i < size; i++) {
            times[i] = P << (doubled >> i & 1);
        }
        Due.put(x, times);
        Due.is("Terms 1, KIND 2: " + bits + " bits, READ of " + Arrays.toString(times), x.read(0), due(bits, size, doubled));
    }

    private static int due(int bits, int size, int doubled) {
        String halves = "";
        for (int i = 0; i < size; i++) {
            halves += (i % 2 == 0 ? "+" : "-").repeat(1 + (doubled >> i & 1));
            if (!isBegun(bits, halves)) {
                return -2 - i;
            }
        }
        for (int code = 0; code < 1 << bits; code++) {
            String whole = halvesOf(bits, code);
            if (halves.equals(whole) || (halves + "-").equals(whole)) {
                return code;
            }
        }
        return -2 - size;
    }

    private static boolean isBegun(int bits, String halves) {
        for (int code = 0; code < 1 << bits; code++) {
            if (halvesOf(bits, code).startsWith(halves)) {
                return true;
            }
        }
        return false;
    }

    /** + for each HALF that is ON, - for each that is OFF. */
    private static String halvesOf(int bits, int code) {
        StringBuilder halves = new StringBuilder("+");
        for (int i = bits - 1; i >= 0; i--) {
            halves.append((code >> i & 1) == 0 ? "+-" : "-+");
        }
        return halves.toString();
    }
}
