/** States in which an object may be when a call is refused. */
final class States {
    static final int MIN = Integer.MIN_VALUE;
    static final int MAX = Integer.MAX_VALUE;

    private States() {
    }

    static void fresh(OneHandset x) {
    }

    /**
     * Five MAKES, KEYS, a FLIP bit that is 1, three BOXES, a row of three BUTTONS, and on THE TAPE the Flashes of
     * CODE 6 by MAKE 0.
     */
    static void ready(OneHandset x) {
        x.make(0, 3, 900, 450, 56, 57, 168);
        x.make(1, 8, 10, 20, 30, 40, 80);
        x.make(2, 6, 1, 2, 100, 3, 4);
        x.make(0, 8, 900, 450, 56, 60, 168);
        x.make(0, 24, 900, 450, 56, 60, 168);
        x.set(0, 0, 0);
        x.set(1, 1, 7);
        learn(x, 0, 0, 5);
        learn(x, 0, 15, 2);
        learn(x, 1, 3, 30);
        learn(x, 1, 4, 45);
        learn(x, 3, 0, 30);
        learn(x, 3, 1, 60);
        learn(x, 4, 0, 0);
        learn(x, 4, 1, 0x7FFF);
        x.press(1, 3);
        x.box(0, 3, 2);
        x.lead(0, 0, 0, 1);
        x.lead(0, 1, 0, 2);
        x.lead(0, 2, 1, 1);
        x.box(1, 8, 4);
        for (int state = 0; state < 8; state++) {
            for (int button = 0; button < 4; button++) {
                x.lead(1, state, button, state * 3 + button & 7);
            }
        }
        x.box(2, 2, 1);
        x.lead(2, 0, 0, 1);
        x.way(0, 2);
        x.maybe(0, 5);
        x.send(0, 6);
    }

    /** Eight MAKES, all KEYS of one of them, 120 TIMES. */
    static void full(OneHandset x) {
        for (int i = 0; i < 8; i++) {
            x.make(i % 3, 4 + i, 900 + i, 450, 56, 60, 168);
        }
        for (int key = 0; key < 16; key++) {
            learn(x, 7, key, 100 * key);
        }
        x.end(0);
        for (int i = 0; i < 24; i++) {
            x.feed(900, 450, 56, 168, i);
        }
    }

    static void learn(OneHandset x, int make, int key, int code) {
        x.send(make, code);
        x.learn(make, key);
    }

    static OneHandset inReady() {
        OneHandset x = new OneHandset();
        ready(x);
        return x;
    }
}
