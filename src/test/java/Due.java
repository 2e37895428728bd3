import java.util.NoSuchElementException;

/** What the project's tests share: answers that are due are counted, others are printed. */
final class Due {
    private static int right = 0;
    private static int wrong = 0;
    private static String heading = "";

    private Due() {
    }

    /** What is told ahead of each wrong answer from now on. */
    static void under(String words) {
        heading = words;
    }

    static int asked() {
        return right + wrong;
    }

    static void is(String call, long got, long want) {
        if (got == want) {
            right++;
        } else {
            wrong++;
            System.out.println(heading + call + " answered " + got + ", due is " + want);
        }
    }

    static void yes(String call, boolean got) {
        is(call, got ? 1 : 0, 1);
    }

    static void no(String call, boolean got) {
        is(call, got ? 1 : 0, 0);
    }

    static void tape(String call, OneHandset x, int... times) {
        int size = x.count(1);
        is(call + ": TIMES", size, times.length);
        for (int i = 0; i < times.length && i < size; i++) {
            is(call + ": time(" + i + ")", x.time(i), times[i]);
        }
        noTime(call, x, times.length);
    }

    static void noTime(String call, OneHandset x, int i) {
        boolean thrown = false;
        try {
            x.time(i);
        } catch (NoSuchElementException e) {
            thrown = true;
        }
        yes(call + ": time(" + i + ") throws NoSuchElementException", thrown);
    }

    /** Puts just these TIMES on THE TAPE. */
    static void put(OneHandset x, int... times) {
        x.end(0);
        for (int i = 0; i < times.length; i += 5) {
            int[] five = java.util.Arrays.copyOf(java.util.Arrays.copyOfRange(times, i, Math.min(i + 5, times.length)), 5);
            x.feed(five[0], five[1], five[2], five[3], five[4]);
        }
        x.end(times.length);
    }

    /** The CODE is sent by the MAKE and LEARNT as the KEY. */
    static void teach(OneHandset x, int make, int key, int code) {
        x.send(make, code);
        is("learn(" + make + ", " + key + ") of " + code, x.learn(make, key), code);
    }

    static void finish(String name) {
        System.out.println(name + ": " + right + " answers as due, " + wrong + " not");
        if (wrong > 0) {
            System.exit(1);
        }
    }
}
