/** Promises 1 to 10: makes and flashes. */
public final class FlashesTest {
    private static final int MIN = Integer.MIN_VALUE;
    private static final int MAX = Integer.MAX_VALUE;

    public static void main(String[] args) {
        aNewObject();
        makesAreCountedAndRefused();
        setChangesMissAndFlip();
        setOfFlipForgetsKeys();
        feedTakesFiveUpToTheEnd();
        feedTakesWhatAreNoTimes();
        endCuts();
        sendDistance();
        sendWidth();
        sendHalves();
        sendOfTheLongest();
        sendIsRefused();
        timeThrows();
        readDistance();
        readWidth();
        readNearer();
        readHalves();
        readOfNoTimes();
        whichTellsMakes();
        stretchCuts();
        Due.finish("FlashesTest");
    }

    private static void aNewObject() {
        OneHandset x = new OneHandset();
        Due.is("1: count(0)", x.count(0), 0);
        Due.is("1: count(1)", x.count(1), 0);
        Due.is("1: count(2)", x.count(2), 0);
        Due.noTime("1", x, 0);
        Due.is("1: which()", x.which(), 0);
        Due.is("1: read(0)", x.read(0), -1);
        Due.is("1: of(0, 0)", x.of(0, 0), -1);
        for (int box = 0; box < 4; box++) {
            for (int what = 0; what < 3; what++) {
                Due.is("1: told(" + box + ", " + what + ")", x.told(box, what), 1);
            }
            Due.is("1: push", x.push(box, 0), 1);
        }
        Due.is("1: told(4, 0)", x.told(4, 0), -1);
        Due.is("NONE", OneHandset.NONE, -1);
    }

    private static void makesAreCountedAndRefused() {
        OneHandset x = new OneHandset();
        int[][] bad = {
            {-1, 4, 1, 1, 1, 1, 2}, {3, 4, 1, 1, 1, 1, 2}, {MAX, 4, 1, 1, 1, 1, 2}, {MIN, 4, 1, 1, 1, 1, 2},
            {0, 0, 1, 1, 1, 1, 2}, {0, 25, 1, 1, 1, 1, 2}, {0, MIN, 1, 1, 1, 1, 2}, {0, MAX, 1, 1, 1, 1, 2},
            {0, 4, 0, 1, 1, 1, 2}, {0, 4, 10000, 1, 1, 1, 2}, {1, 4, 1, 0, 1, 1, 2}, {1, 4, 1, 10000, 1, 1, 2},
            {2, 4, 1, 1, 0, 1, 2}, {2, 4, 1, 1, 10000, 1, 2}, {0, 4, 1, 1, 1, 0, 2}, {0, 4, 1, 1, 1, 10000, 2},
            {0, 4, 1, 1, 1, 1, 0}, {0, 4, 1, 1, 1, 1, 10000}, {2, 4, 0, 1, 1, 1, 2}, {2, 4, 1, 1, 1, 7, 7},
            {0, 4, 1, 1, 1, 7, 7}, {1, 4, 1, 1, 1, 7, 7}, {0, 4, MIN, MIN, MIN, MIN, MAX},
        };
        for (int[] b : bad) {
            Due.is("2: make refused", x.make(b[0], b[1], b[2], b[3], b[4], b[5], b[6]), -1);
        }
        Due.is("2: count(0)", x.count(0), 0);
        Due.is("2: make", x.make(0, 1, 1, 1, 1, 1, 2), 0);
        Due.is("2: make", x.make(1, 24, 9999, 9999, 9999, 9999, 9998), 1);
        Due.is("2: make", x.make(2, 7, 9999, 1, 9999, 1, 9999), 2);
        for (int i = 3; i < 8; i++) {
            Due.is("2: make", x.make(0, i, 1, 1, 1, 1, 2), i);
        }
        Due.is("2: a ninth make", x.make(0, 4, 1, 1, 1, 1, 2), -1);
        Due.is("2: count(0)", x.count(0), 8);
        Due.is("2: there is no MAKE 8", x.of(8, 0), -1);
        Due.is("2: there is no MAKE 8", x.send(8, 0), -1);
        Due.is("2: there is no MAKE 8", x.read(8), -1);
        Due.is("2: there is no MAKE 8", x.both(7, 8), -1);
        int[] kinds = {0, 1, 2, 0, 0, 0, 0, 0};
        int[] bits = {1, 24, 7, 3, 4, 5, 6, 7};
        for (int i = 0; i < 8; i++) {
            Due.is("2: KIND", x.of(i, 0), kinds[i]);
            Due.is("2: N", x.of(i, 1), bits[i]);
            Due.is("2: MISS", x.of(i, 2), 20);
            Due.is("2: FLIP", x.of(i, 3), -1);
            Due.is("2: KEYS", x.of(i, 4), 0);
            Due.is("2: FIXED", x.of(i, 5), 0);
            Due.is("2: FLIP bit", x.of(i, 6), 0);
        }
    }

    private static void setChangesMissAndFlip() {
        OneHandset x = new OneHandset();
        Due.no("3: set without MAKES", x.set(0, 0, 10));
        x.make(0, 4, 900, 450, 56, 56, 168);
        x.make(0, 4, 900, 450, 56, 56, 168);
        for (int v : new int[] {0, 40, 7}) {
            Due.yes("3: set MISS", x.set(0, 0, v));
            Due.is("3: MISS", x.of(0, 2), v);
        }
        for (int v : new int[] {-1, 41, MIN, MAX}) {
            Due.no("3: set MISS refused", x.set(0, 0, v));
            Due.is("3: MISS stays", x.of(0, 2), 7);
        }
        Due.is("3: MISS of the other", x.of(1, 2), 20);
        for (int v : new int[] {0, 3, -1, 2}) {
            Due.yes("3: set FLIP", x.set(0, 1, v));
            Due.is("3: FLIP", x.of(0, 3), v);
        }
        for (int v : new int[] {-2, 4, MIN, MAX}) {
            Due.no("3: set FLIP refused", x.set(0, 1, v));
            Due.is("3: FLIP stays", x.of(0, 3), 2);
        }
        for (int what : new int[] {-1, 2, MIN, MAX}) {
            Due.no("3: set of another what", x.set(0, what, 1));
        }
        for (int make : new int[] {-1, 2, 8, MIN, MAX}) {
            Due.no("3: set of no MAKE", x.set(make, 0, 1));
            Due.no("3: set of no MAKE", x.set(make, 1, 1));
        }
        Due.is("3: FLIP of the other", x.of(1, 3), -1);
    }

    private static void setOfFlipForgetsKeys() {
        OneHandset x = new OneHandset();
        x.make(0, 4, 900, 450, 56, 56, 168);
        x.make(0, 4, 900, 450, 56, 56, 168);
        Due.teach(x, 0, 3, 5);
        Due.teach(x, 0, 15, 6);
        Due.teach(x, 1, 3, 5);
        Due.yes("3: set MISS keeps KEYS", x.set(0, 0, 10));
        Due.is("3: KEYS", x.of(0, 4), 2);
        Due.no("3: refused set keeps KEYS", x.set(0, 1, 4));
        Due.is("3: KEYS", x.of(0, 4), 2);
        Due.yes("3: the same FLIP told", x.set(0, 1, -1));
        Due.is("3: KEYS", x.of(0, 4), 0);
        Due.is("3: key", x.key(0, 3), -1);
        Due.is("3: key", x.key(0, 15), -1);
        Due.is("3: FIXED", x.of(0, 5), 0);
        Due.is("3: KEYS of the other", x.of(1, 4), 1);
    }

    private static void feedTakesFiveUpToTheEnd() {
        OneHandset x = new OneHandset();
        for (int i = 1; i <= 24; i++) {
            Due.is("4: feed", x.feed(i, 2, 3, 4, 5), 5 * i);
        }
        Due.is("4: feed beyond 120", x.feed(7, 7, 7, 7, 7), -1);
        Due.is("4: TIMES", x.count(1), 120);
        Due.is("4: time(115)", x.time(115), 24);
        Due.is("4: time(119)", x.time(119), 5);
        x.end(116);
        Due.is("4: feed beyond 120", x.feed(7, 7, 7, 7, 7), -1);
        Due.is("4: none come", x.count(1), 116);
        x.end(115);
        Due.is("4: feed", x.feed(7, 8, 9, 10, 11), 120);
        Due.is("4: time(115)", x.time(115), 7);
        Due.is("4: time(119)", x.time(119), 11);
    }

    private static void feedTakesWhatAreNoTimes() {
        OneHandset x = new OneHandset();
        Due.is("4: feed", x.feed(0, -1, MIN, MAX, 20001), 5);
        Due.tape("4: feed", x, 0, -1, MIN, MAX, 20001);
        Due.is("4: feed", x.feed(1, 20000, 3, 4, 5), 10);
        Due.tape("4: feed", x, 0, -1, MIN, MAX, 20001, 1, 20000, 3, 4, 5);
    }

    private static void endCuts() {
        OneHandset x = new OneHandset();
        Due.yes("5: end(0) of none", x.end(0));
        Due.no("5: end(1) of none", x.end(1));
        x.feed(1, 2, 3, 4, 5);
        Due.no("5: end(6)", x.end(6));
        Due.no("5: end(-1)", x.end(-1));
        Due.no("5: end(MIN)", x.end(MIN));
        Due.no("5: end(MAX)", x.end(MAX));
        Due.tape("5: refused", x, 1, 2, 3, 4, 5);
        Due.yes("5: end(5)", x.end(5));
        Due.tape("5: end(5)", x, 1, 2, 3, 4, 5);
        Due.yes("5: end(3)", x.end(3));
        Due.tape("5: end(3)", x, 1, 2, 3);
        Due.no("5: end(4)", x.end(4));
        Due.yes("5: end(0)", x.end(0));
        Due.tape("5: end(0)", x);
    }

    private static void sendDistance() {
        OneHandset x = new OneHandset();
        x.make(0, 3, 900, 450, 56, 57, 168);
        x.make(0, 1, 9, 4, 5, 6, 1);
        x.feed(1, 1, 1, 1, 1);
        Due.is("6: send", x.send(0, 4), 9);
        Due.tape("6: DISTANCE", x, 900, 450, 56, 168, 56, 57, 56, 57, 56);
        Due.is("6: send", x.send(1, 0), 5);
        Due.tape("6: DISTANCE", x, 9, 4, 5, 6, 5);
        Due.is("6: send", x.send(1, 1), 5);
        Due.tape("6: DISTANCE", x, 9, 4, 5, 1, 5);
    }

    private static void sendWidth() {
        OneHandset x = new OneHandset();
        x.make(1, 3, 10, 20, 30, 40, 80);
        x.make(1, 1, 10, 20, 30, 40, 80);
        Due.is("6: send", x.send(0, 4), 7);
        Due.tape("6: WIDTH", x, 10, 20, 80, 30, 40, 30, 40);
        Due.is("6: send", x.send(1, 1), 3);
        Due.tape("6: WIDTH", x, 10, 20, 80);
    }

    private static void sendHalves() {
        OneHandset x = new OneHandset();
        x.make(2, 3, 1, 1, 100, 1, 2);
        x.make(2, 1, 1, 1, 9999, 1, 2);
        int[][] due = {
            {200, 100, 100, 100, 100}, {200, 100, 100, 200, 100}, {200, 200, 200}, {200, 200, 100, 100, 100},
            {100, 100, 200, 100, 100}, {100, 100, 200, 200, 100}, {100, 100, 100, 100, 200},
            {100, 100, 100, 100, 100, 100, 100},
        };
        for (int code = 0; code < 8; code++) {
            Due.is("6: send(0, " + code + ")", x.send(0, code), due[code].length);
            Due.tape("6: HALVES " + code, x, due[code]);
        }
        Due.is("6: send", x.send(1, 0), 1);
        Due.tape("6: HALVES", x, 19998);
        Due.is("6: send", x.send(1, 1), 3);
        Due.tape("6: HALVES", x, 9999, 9999, 9999);
    }

    private static void sendOfTheLongest() {
        OneHandset x = new OneHandset();
        int[] due = {51, 49, 49};
        int top = (1 << 24) - 1;
        for (int kind = 0; kind < 3; kind++) {
            x.make(kind, 24, 900, 450, 56, 60, 168);
            Due.is("6: send of 24 bits", x.send(kind, top), due[kind]);
            Due.is("8: read of 24 bits", x.read(kind), top);
            Due.is("6: send of no CODE", x.send(kind, top + 1), -1);
            for (int code : new int[] {0, 1, 1 << 23, 0x555555, 0xAAAAAA, 0x123456}) {
                x.send(kind, code);
                Due.is("8: read of 24 bits", x.read(kind), code);
            }
        }
    }

    private static void sendIsRefused() {
        OneHandset x = new OneHandset();
        Due.is("6: send without MAKES", x.send(0, 0), -1);
        x.make(0, 3, 900, 450, 56, 57, 168);
        x.feed(1, 2, 3, 4, 5);
        for (int code : new int[] {-1, 8, MIN, MAX}) {
            Due.is("6: send of no CODE", x.send(0, code), -1);
        }
        for (int make : new int[] {-1, 1, 8, MIN, MAX}) {
            Due.is("6: send by no MAKE", x.send(make, 0), -1);
        }
        Due.tape("6: refused", x, 1, 2, 3, 4, 5);
    }

    private static void timeThrows() {
        OneHandset x = new OneHandset();
        Due.noTime("7", x, 0);
        x.feed(6, 7, 8, 9, 10);
        Due.is("7: time(0)", x.time(0), 6);
        Due.is("7: time(4)", x.time(4), 10);
        for (int i : new int[] {-1, 5, 119, 120, MIN, MAX}) {
            Due.noTime("7", x, i);
        }
        x.end(2);
        Due.noTime("7", x, 2);
    }

    private static void readDistance() {
        OneHandset x = new OneHandset();
        x.make(0, 2, 900, 450, 50, 100, 300);
        Due.is("8: read of none", x.read(0), -2);
        int[] good = {900, 450, 50, 100, 50, 300, 50};
        Due.put(x, good);
        Due.is("8: read", x.read(0), 1);
        for (int n = 0; n < 7; n++) {
            Due.put(x, java.util.Arrays.copyOf(good, n));
            Due.is("8: ends too early", x.read(0), -2 - n);
        }
        Due.put(x, java.util.Arrays.copyOf(good, 8));
        Due.is("8: one too many", x.read(0), -2 - 7);
        int[] most = {1080, 540, 60, 120, 60, 360, 60};
        int[] least = {720, 360, 40, 80, 40, 240, 40};
        Due.put(x, most);
        Due.is("8: the most that FITS", x.read(0), 1);
        Due.put(x, least);
        Due.is("8: the least that FITS", x.read(0), 1);
        for (int i = 0; i < 7; i++) {
            int[] t = good.clone();
            t[i] = most[i] + 1;
            Due.put(x, t);
            Due.is("8: too long at " + i, x.read(0), -2 - i);
            t[i] = least[i] - 1;
            Due.put(x, t);
            Due.is("8: too short at " + i, x.read(0), -2 - i);
        }
        x.set(0, 0, 0);
        Due.put(x, good);
        Due.is("8: MISS 0", x.read(0), 1);
        Due.put(x, 900, 450, 50, 101, 50, 300, 50);
        Due.is("8: MISS 0", x.read(0), -2 - 3);
        Due.is("8: THE TAPE stays", x.count(1), 7);
        for (int make : new int[] {-1, 1, 8, MIN, MAX}) {
            Due.is("8: read by no MAKE", x.read(make), -1);
        }
    }

    private static void readWidth() {
        OneHandset x = new OneHandset();
        x.make(1, 3, 10, 20, 30, 40, 80);
        int[] good = {10, 20, 80, 30, 40, 30, 80};
        Due.put(x, good);
        Due.is("8: read", x.read(0), 5);
        for (int n = 0; n < 7; n++) {
            Due.put(x, java.util.Arrays.copyOf(good, n));
            Due.is("8: ends too early", x.read(0), -2 - n);
        }
        Due.put(x, 10, 20, 80, 30, 40, 30, 80, 30);
        Due.is("8: one too many", x.read(0), -2 - 7);
        for (int i = 0; i < 7; i++) {
            int[] t = good.clone();
            t[i] = 500;
            Due.put(x, t);
            Due.is("8: does not FIT at " + i, x.read(0), -2 - i);
        }
    }

    private static void readNearer() {
        OneHandset x = new OneHandset();
        x.make(0, 1, 10, 10, 10, 100, 120);
        x.make(0, 1, 10, 10, 10, 120, 100);
        int[][] due = {{80, 0, 1}, {95, 0, 1}, {96, 0, 1}, {109, 0, 1}, {110, 0, 0}, {111, 1, 0}, {120, 1, 0}, {121, 1, 0}, {144, 1, 0}};
        for (int[] d : due) {
            Due.put(x, 10, 10, 10, d[0], 10);
            Due.is("8: nearer z, o of " + d[0], x.read(0), d[1]);
            Due.is("8: nearer o, z of " + d[0], x.read(1), d[2]);
        }
        x.make(2, 1, 1, 1, 100, 1, 2);
        x.set(2, 0, 40);
        int[][] halves = {{59, -2}, {60, -3}, {119, -3}, {120, -3}, {140, -3}, {141, 0}, {200, 0}, {280, 0}, {281, -2}};
        for (int[] h : halves) {
            Due.put(x, h[0]);
            Due.is("8: HALVES in " + h[0], x.read(2), h[1]);
        }
    }

    private static void readHalves() {
        OneHandset x = new OneHandset();
        x.make(2, 2, 1, 1, 100, 1, 2);
        int[][] tapes = {
            {}, {100}, {200}, {100, 100}, {100, 200}, {100, 100, 100}, {100, 100, 200}, {100, 100, 200, 100},
            {100, 100, 200, 200}, {100, 100, 200, 100, 100}, {200, 100, 100}, {200, 100, 200}, {200, 100, 100, 100},
            {200, 200, 100}, {200, 200, 200}, {200, 200}, {100, 100, 100, 100}, {100, 100, 100, 100, 100},
            {100, 100, 100, 100, 200}, {100, 100, 100, 200}, {150}, {200, 100, 100, 100, 7}, {100, 100, 150},
        };
        int[] due = {
            -2, -3, -3, -4, -3, -5, 2, 2,
            -5, -6, 0, -4, 0,
            1, -4, -4, -6, 3,
            -6, -5, -2, -6, -4,
        };
        for (int i = 0; i < tapes.length; i++) {
            Due.put(x, tapes[i]);
            Due.is("8: HALVES, tape " + i, x.read(0), due[i]);
        }
    }

    private static void readOfNoTimes() {
        OneHandset x = new OneHandset();
        x.make(2, 1, 1, 1, 9999, 1, 2);
        x.set(0, 0, 40);
        Due.put(x, 20000);
        Due.is("4: 20000 is a TIME", x.read(0), 0);
        for (int t : new int[] {20001, 0, -1, MIN, MAX, MIN + 9999, MAX - 9999, -19998, 42949673}) {
            Due.put(x, t);
            Due.is("4: " + t + " never FITS", x.read(0), -2);
        }
        x.make(0, 1, 1, 1, 1, 1, 2);
        x.set(1, 0, 40);
        Due.put(x, 1, 1, 1, 0, 1);
        Due.is("4: 0 never FITS", x.read(1), -2 - 3);
        Due.put(x, 1, 1, 1, 1, 1);
        Due.is("4: 1 is a TIME", x.read(1), 0);
    }

    private static void whichTellsMakes() {
        OneHandset x = new OneHandset();
        x.make(0, 2, 100, 100, 100, 100, 200);
        x.make(1, 3, 100, 100, 100, 100, 200);
        x.make(2, 3, 1, 1, 100, 1, 2);
        x.make(0, 2, 100, 100, 130, 100, 200);
        Due.put(x, 100, 100, 100, 100, 100, 100, 100);
        Due.is("9: which", x.which(), 1 | 2 | 4);
        x.set(3, 0, 24);
        Due.is("9: which", x.which(), 15);
        x.set(1, 0, 0);
        x.stretch(1);
        Due.is("9: which", x.which(), 1 | 4 | 8);
        x.end(6);
        Due.is("9: which", x.which(), 0);
        for (int i = 4; i < 8; i++) {
            x.make(0, 1, 100, 100, 100, 100, 200);
        }
        Due.put(x, 100, 100, 100, 100, 100);
        Due.is("9: which", x.which(), 240);
    }

    private static void stretchCuts() {
        OneHandset x = new OneHandset();
        Due.yes("10: stretch of none", x.stretch(60));
        Due.put(x, 1, 2, 99, 101, 12500, 12501, 20000, 0, -100, 20001, MAX, MIN);
        Due.no("10: stretch(61)", x.stretch(61));
        Due.no("10: stretch(-61)", x.stretch(-61));
        Due.no("10: stretch(MAX)", x.stretch(MAX));
        Due.no("10: stretch(MIN)", x.stretch(MIN));
        Due.yes("10: stretch(0)", x.stretch(0));
        Due.tape("10: stays", x, 1, 2, 99, 101, 12500, 12501, 20000, 0, -100, 20001, MAX, MIN);
        Due.yes("10: stretch(60)", x.stretch(60));
        Due.tape("10: stretch(60)", x, 1, 3, 158, 161, 20000, 20000, 20000, 0, -100, 20001, MAX, MIN);
        Due.yes("10: stretch(-60)", x.stretch(-60));
        Due.tape("10: stretch(-60)", x, 1, 1, 63, 64, 8000, 8000, 8000, 0, -100, 20001, MAX, MIN);
        int[] full = new int[120];
        java.util.Arrays.fill(full, 100);
        Due.put(x, full);
        Due.yes("10: stretch of all 120", x.stretch(7));
        java.util.Arrays.fill(full, 107);
        Due.tape("10: stretch of all 120", x, full);
        Due.put(x, 100, 100, 100);
        x.end(2);
        x.stretch(50);
        x.feed(1, 2, 3, 4, 5);
        Due.tape("10: what was cut off is gone", x, 150, 150, 1, 2, 3, 4, 5);
        Due.put(x, 56, 990, 7, 3);
        Due.yes("10: stretch(-10)", x.stretch(-10));
        Due.tape("10: stretch(-10)", x, 50, 891, 6, 2);
    }
}
