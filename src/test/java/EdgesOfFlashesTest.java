import java.util.Arrays;

/** The boundaries of promises 1 to 10; what is refused is looked at with Twins, which see that nothing changes. */
public final class EdgesOfFlashesTest {
    private static final int MIN = Integer.MIN_VALUE;
    private static final int MAX = Integer.MAX_VALUE;
    private static final Twins FRESH = new Twins(States::fresh);
    private static final Twins READY = new Twins(States::ready);
    private static final Twins FULL = new Twins(States::full);

    public static void main(String[] args) throws ReflectiveOperationException {
        Edges.run(EdgesOfFlashesTest.class);
    }

    private static OneHandset withMake(int kind, int n) {
        OneHandset x = new OneHandset();
        Due.is("make", x.make(kind, n, 900, 450, 56, 60, 168), 0);
        return x;
    }

    private static int[] filled(int size, int t) {
        int[] out = new int[size];
        Arrays.fill(out, t);
        return out;
    }

    // ---- promise 1

    @Says(in = 1, is = "No MAKES, TIMES; BOXES of one STATE and BUTTON.")
    private static void aNewObject() {
        OneHandset x = new OneHandset();
        Due.is("MAKES", x.count(0), 0);
        Due.is("TIMES", x.count(1), 0);
        Due.is("which", x.which(), 0);
        Due.noTime("none", x, 0);
        Due.is("MAKE 0", x.of(0, 0), -1);
        Due.is("read by MAKE 0", x.read(0), -1);
        for (int b = 0; b < 4; b++) {
            Due.is("STATES", x.told(b, 0), 1);
            Due.is("BUTTONS", x.told(b, 1), 1);
            Due.is("MAYBE", x.told(b, 2), 1);
            Due.yes("STATE 0, BUTTON 0", x.lead(b, 0, 0, 0));
            Due.no("STATE 1", x.lead(b, 1, 0, 0));
            Due.no("to STATE 1", x.lead(b, 0, 0, 1));
            Due.no("BUTTON 1", x.lead(b, 0, 1, 0));
            Due.is("push", x.push(b, 0), 1);
            Due.is("push", x.push(b, 1), -1);
            Due.is("way", x.way(b, 1), 0);
            Due.is("way", x.way(b, 2), -1);
        }
    }

    // ---- promise 2

    @Says(in = 2, is = "A MAKE, its MISS 20, no FLIP: its number.")
    private static void aNewMake() {
        OneHandset x = new OneHandset();
        for (int i = 0; i < 8; i++) {
            Due.is("make", x.make(i % 3, i + 1, 900, 450, 56, 60, 168), i);
            Due.is("KIND", x.of(i, 0), i % 3);
            Due.is("N", x.of(i, 1), i + 1);
            Due.is("MISS", x.of(i, 2), 20);
            Due.is("FLIP", x.of(i, 3), -1);
            Due.is("KEYS", x.of(i, 4), 0);
        }
        Due.put(x, 1080);
        Due.is("1080 FITS 900 with MISS 20", x.read(0), -2 - 1);
        Due.put(x, 1081);
        Due.is("1081 does not", x.read(0), -2);
    }

    @Says(in = 2, is = "Refused: others")
    private static void othersAreNoMakes() {
        int[] good = {0, 4, 900, 450, 56, 60, 168};
        int[][] wrong = {{-1, 3, MIN, MAX}, {0, 25, MIN, MAX}, {0, 10000, MIN, MAX}};
        for (int i = 0; i < 7; i++) {
            for (int v : wrong[Math.min(i, 2)]) {
                int[] t = good.clone();
                t[i] = v;
                String call = "make" + Arrays.toString(t);
                READY.none(call, x -> x.make(t[0], t[1], t[2], t[3], t[4], t[5], t[6]));
                FRESH.none(call, x -> x.make(t[0], t[1], t[2], t[3], t[4], t[5], t[6]));
            }
        }
        for (int kind = 0; kind < 3; kind++) {
            int k = kind;
            READY.none("z and o alike, KIND " + kind, x -> x.make(k, 4, 900, 450, 56, 60, 60));
        }
        OneHandset x = States.inReady();
        Due.is("one that is not refused", x.make(0, 4, 900, 450, 56, 60, 168), 5);
        Due.is("the next", x.make(2, 24, 1, 9999, 1, 9999, 1), 6);
    }

    @Says(in = 2, is = ", 8.")
    private static void aNinthIsRefused() {
        OneHandset x = new OneHandset();
        for (int i = 0; i < 7; i++) {
            x.make(0, 4, 900, 450, 56, 60, 168);
        }
        Due.is("a wrong one ahead of the eighth", x.make(0, 4, 900, 450, 56, 60, 60), -1);
        Due.is("the eighth", x.make(0, 4, 900, 450, 56, 60, 168), 7);
        Due.is("the ninth", x.make(0, 4, 900, 450, 56, 60, 168), -1);
        Due.is("MAKES", x.count(0), 8);
        FULL.none("the ninth", y -> y.make(0, 4, 900, 450, 56, 60, 168));
        FULL.none("the ninth, wrong too", y -> y.make(3, 4, 900, 450, 56, 60, 168));
    }

    // ---- promise 3

    @Says(in = 3, is = "MISS of a MAKE becomes v (what 0)")
    private static void missBecomes() {
        OneHandset x = withMake(0, 4);
        x.make(0, 4, 900, 450, 56, 60, 168);
        for (int v : new int[] {0, 1, 39, 40}) {
            Due.yes("set(0, 0, " + v + ")", x.set(0, 0, v));
            Due.is("MISS", x.of(0, 2), v);
            Due.put(x, 900 + 9 * v);
            Due.is("the longest", x.read(0), -2 - 1);
            Due.put(x, 900 + 9 * v + 1);
            Due.is("one longer", x.read(0), -2);
        }
        Due.is("MISS of the other MAKE", x.of(1, 2), 20);
    }

    @Says(in = 3, is = "FLIP (what 1): true; KEYS that are LEARNT are not any more, if FLIP is told.")
    private static void flipForgetsKeys() {
        for (int v : new int[] {-1, 0, 7}) {
            OneHandset x = withMake(0, 8);
            x.make(0, 8, 900, 450, 56, 60, 168);
            for (int key = 0; key < 16; key++) {
                States.learn(x, 0, key, 4 * key);
            }
            States.learn(x, 1, 0, 9);
            Due.is("KEYS", x.of(0, 4), 16);
            Due.yes("set MISS", x.set(0, 0, 0));
            Due.is("KEYS stay if MISS is told", x.of(0, 4), 16);
            Due.yes("set(0, 1, " + v + ")", x.set(0, 1, v));
            Due.is("FLIP", x.of(0, 3), v);
            Due.is("KEYS", x.of(0, 4), 0);
            for (int key = 0; key < 16; key++) {
                Due.is("key " + key, x.key(0, key), -1);
            }
            Due.is("FIXED", x.of(0, 5), 0);
            Due.is("many", x.many(0), -1);
            Due.is("KEYS of the other MAKE", x.of(1, 4), 1);
            Due.is("FLIP of the other MAKE", x.of(1, 3), -1);
        }
    }

    @Says(in = 3, is = "Refused: others.")
    private static void otherSetsAreRefused() {
        for (int make : new int[] {-1, 5, 8, MIN, MAX}) {
            READY.no("MISS of MAKE " + make, x -> x.set(make, 0, 20));
            READY.no("FLIP of MAKE " + make, x -> x.set(make, 1, 0));
        }
        for (int what : new int[] {-1, 2, MIN, MAX}) {
            READY.no("what " + what, x -> x.set(0, what, 0));
        }
        for (int v : new int[] {-1, 41, MIN, MAX}) {
            READY.no("MISS " + v, x -> x.set(1, 0, v));
        }
        for (int v : new int[] {-2, 8, MIN, MAX}) {
            READY.no("FLIP " + v + " of 8 bits", x -> x.set(1, 1, v));
        }
        READY.no("FLIP 3 of 3 bits", x -> x.set(0, 1, 3));
        READY.no("FLIP 24 of 24 bits", x -> x.set(4, 1, 24));
        FRESH.no("no MAKES", x -> x.set(0, 0, 20));
        FULL.no("MAKE 8", x -> x.set(8, 0, 20));
        OneHandset x = States.inReady();
        Due.yes("MISS of the last MAKE", x.set(4, 0, 40));
        Due.yes("FLIP of the last MAKE", x.set(4, 1, 23));
    }

    // ---- promise 4

    @Says(in = 4, is = "Five TIMES come behind THE TAPE: how many it has.")
    private static void fiveComeBehind() {
        OneHandset x = new OneHandset();
        Due.is("feed", x.feed(1, 2, 3, 4, 5), 5);
        Due.is("feed", x.feed(6, 7, 8, 9, 20000), 10);
        Due.tape("feed", x, 1, 2, 3, 4, 5, 6, 7, 8, 9, 20000);
        x.end(3);
        Due.is("feed behind what is left", x.feed(11, 12, 13, 14, 15), 8);
        Due.tape("feed", x, 1, 2, 3, 11, 12, 13, 14, 15);
    }

    @Says(in = 4, is = "Refused, and none come: there would be more than 120.")
    private static void moreThan120AreRefused() {
        for (int left = 115; left <= 120; left++) {
            int size = left;
            Twins twins = new Twins(x -> {
                States.full(x);
                x.end(size);
            });
            if (size > 115) {
                twins.none("feed behind " + size, x -> x.feed(1, 2, 3, 4, 5));
                twins.none("feed of no TIMES behind " + size, x -> x.feed(0, MIN, MAX, -1, 20001));
            }
        }
        OneHandset x = new OneHandset();
        States.full(x);
        x.end(115);
        Due.is("feed behind 115", x.feed(1, 2, 3, 4, 5), 120);
        Due.is("the last but five", x.time(114), 22);
        Due.is("the first of five", x.time(115), 1);
        Due.is("the last", x.time(119), 5);
    }

    @Says(in = 4, is = "(What are no TIMES never FIT.)")
    private static void noTimesNeverFit() {
        OneHandset x = new OneHandset();
        x.make(0, 1, 9999, 9999, 9999, 9999, 1);
        x.make(1, 1, 9999, 9999, 9999, 9999, 1);
        x.make(2, 1, 9999, 9999, 9999, 9999, 1);
        for (int m = 0; m < 3; m++) {
            x.set(m, 0, 40);
        }
        for (int t : new int[] {20001, 0, -1, MIN, MAX, -9999, MIN + 9999, 42949673 + 9999}) {
            Due.is("feed takes it", x.feed(t, 9999, 9999, 9999, 9999), 5);
            Due.is("it is on THE TAPE", x.time(0), t);
            for (int m = 0; m < 3; m++) {
                Due.is(t + " by MAKE " + m, x.read(m), -2);
            }
            x.end(0);
        }
        Due.put(x, 13998);
        Due.is("13998 FITS 9999", x.read(0), -2 - 1);
        Due.put(x, 20000);
        Due.is("20000 FITS 19998", x.read(2), 0);
        Due.put(x, 9999, 9999, 9999, 0, 9999);
        Due.is("0 does not FIT 1", x.read(0), -2 - 3);
        Due.put(x, 9999, 9999, 9999, 1, 9999);
        Due.is("1 FITS 1", x.read(0), 1);
    }

    // ---- promise 5

    @Says(in = 5, is = "THE TAPE has its first n TIMES alone: true")
    private static void theFirstAlone() {
        OneHandset x = new OneHandset();
        Due.yes("end(0) of none", x.end(0));
        x.feed(1, 2, 3, 4, 5);
        Due.yes("end(5) of 5", x.end(5));
        Due.tape("end(5)", x, 1, 2, 3, 4, 5);
        Due.yes("end(4) of 5", x.end(4));
        Due.tape("end(4)", x, 1, 2, 3, 4);
        Due.yes("end(1) of 4", x.end(1));
        Due.tape("end(1)", x, 1);
        Due.yes("end(0) of 1", x.end(0));
        Due.tape("end(0)", x);
        OneHandset y = new OneHandset();
        States.full(y);
        Due.yes("end(120) of 120", y.end(120));
        Due.is("TIMES", y.count(1), 120);
        Due.yes("end(119) of 120", y.end(119));
        Due.noTime("cut off", y, 119);
    }

    @Says(in = 5, is = "false if it has not so many, or n is below 0.")
    private static void noSuchEnd() {
        for (int n : new int[] {1, -1, 120, MIN, MAX}) {
            FRESH.no("end(" + n + ") of none", x -> x.end(n));
        }
        for (int n : new int[] {10, -1, 120, MIN, MAX}) {
            READY.no("end(" + n + ") of 9", x -> x.end(n));
        }
        for (int n : new int[] {121, -1, 125, MIN, MAX}) {
            FULL.no("end(" + n + ") of 120", x -> x.end(n));
        }
        OneHandset x = States.inReady();
        x.end(4);
        Due.no("what was cut off does not come again", x.end(5));
    }

    // ---- promise 6

    @Says(in = 6, is = "THE TAPE is the Flashes of a CODE by a MAKE: how many TIMES.")
    private static void sendOfTheShortestAndLongest() {
        int[] shortest = {5, 3, 1};
        int[] longest = {51, 49, 49};
        for (int kind = 0; kind < 3; kind++) {
            OneHandset x = withMake(kind, 1);
            x.make(kind, 24, 900, 450, 56, 60, 168);
            x.feed(1, 1, 1, 1, 1);
            Due.is("send of 1 bit", x.send(0, 0), shortest[kind]);
            Due.is("TIMES", x.count(1), shortest[kind]);
            Due.is("send of 24 bits", x.send(1, (1 << 24) - 1), longest[kind]);
            Due.is("TIMES", x.count(1), longest[kind]);
            Due.is("send of 1 bit", x.send(0, 0), shortest[kind]);
            Due.is("what was there is gone", x.count(1), shortest[kind]);
        }
        OneHandset y = new OneHandset();
        States.full(y);
        Due.is("send onto 120 TIMES", y.send(0, 0), 11);
        Due.is("TIMES", y.count(1), 11);
    }

    @Says(in = 6, is = "Refused: no such MAKE, CODE.")
    private static void noSuchSend() {
        for (int make : new int[] {-1, 5, 8, MIN, MAX}) {
            READY.none("by MAKE " + make, x -> x.send(make, 0));
        }
        int[] tops = {8, 256, 64, 256, 1 << 24};
        for (int make = 0; make < 5; make++) {
            int m = make;
            for (int code : new int[] {tops[make], -1, MIN, MAX}) {
                READY.none("of CODE " + code + " by MAKE " + make, x -> x.send(m, code));
            }
            OneHandset x = States.inReady();
            Due.yes("of the last CODE", x.send(make, tops[make] - 1) > 0);
            Due.is("of the last CODE", x.read(make), tops[make] - 1);
        }
        FRESH.none("without MAKES", x -> x.send(0, 0));
        FULL.none("by MAKE 8", x -> x.send(8, 0));
    }

    // ---- promise 7

    @Says(in = 7, is = "NoSuchElementException: none such.")
    private static void noSuchTime() {
        OneHandset x = new OneHandset();
        for (int i : new int[] {0, -1, 1, 119, 120, MIN, MAX}) {
            Due.noTime("of none", x, i);
        }
        x.feed(11, 12, 13, 14, 15);
        Due.is("time(0)", x.time(0), 11);
        Due.is("time(4)", x.time(4), 15);
        for (int i : new int[] {5, -1, 119, 120, MIN, MAX}) {
            Due.noTime("of five", x, i);
        }
        x.end(4);
        Due.is("time(3)", x.time(3), 14);
        Due.noTime("of four", x, 4);
        OneHandset y = new OneHandset();
        States.full(y);
        Due.is("time(119)", y.time(119), 23);
        Due.noTime("of 120", y, 120);
        READY.keeps("time(9)", z -> thrown(z, 9), 1);
        READY.keeps("time(-1)", z -> thrown(z, -1), 1);
        FULL.keeps("time(120)", z -> thrown(z, 120), 1);
    }

    private static int thrown(OneHandset x, int i) {
        try {
            x.time(i);
            return 0;
        } catch (java.util.NoSuchElementException e) {
            return 1;
        }
    }

    // ---- promise 8

    @Says(in = 8, is = "THE TAPE READ by a MAKE: its CODE (with FLIP)")
    private static void readTellsTheFlip() {
        OneHandset x = withMake(0, 8);
        for (int flip : new int[] {0, 7}) {
            x.set(0, 1, flip);
            for (int code : new int[] {0, 1, 128, 254, 127, 255}) {
                x.send(0, code);
                Due.is("read", x.read(0), code);
            }
        }
    }

    @Says(in = 8, is = "-2 less the FAULT's place.")
    private static void readTellsTheFault() {
        OneHandset x = withMake(0, 1);
        Due.is("of none", x.read(0), -2);
        Due.put(x, 9);
        Due.is("at the first", x.read(0), -2);
        Due.put(x, 900, 450, 56, 60, 9);
        Due.is("at the last", x.read(0), -2 - 4);
        Due.put(x, 900, 450, 56, 60);
        Due.is("at the end", x.read(0), -2 - 4);
        OneHandset y = withMake(0, 24);
        y.send(0, 0);
        for (int i = 0; i < 13; i++) {
            y.feed(56, 60, 56, 60, 56);
        }
        Due.is("TIMES", y.count(1), 116);
        Due.is("behind the last", y.read(0), -2 - 51);
        y.end(51);
        Due.is("none behind it", y.read(0), 0);
        y.end(50);
        Due.is("at the end", y.read(0), -2 - 50);
    }

    @Says(in = 8, is = "NONE: no such MAKE.")
    private static void readByNoMake() {
        FRESH.none("without MAKES", x -> x.read(0));
        for (int make : new int[] {-1, 5, 8, MIN, MAX}) {
            READY.none("by MAKE " + make, x -> x.read(make));
        }
        FULL.none("by MAKE 8", x -> x.read(8));
        FULL.keeps("by MAKE 7", x -> x.read(7), -2 - 3);
    }

    @Says(in = 8, is = "(THE TAPE stays.)")
    private static void readLeavesTheTape() {
        READY.keeps("its own", x -> x.read(0), 6);
        READY.keeps("a FAULT", x -> x.read(1), -2);
        READY.keeps("a FAULT", x -> x.read(3), -2 - 9);
    }

    // ---- promise 9

    @Says(in = 9, is = "MAKES by which THE TAPE is READ without FAULT, as bits.")
    private static void whichOfNoneAndAll() {
        OneHandset x = new OneHandset();
        Due.is("without MAKES", x.which(), 0);
        for (int i = 0; i < 8; i++) {
            x.make(0, 1, 900, 450, 56, 60, 168);
            Due.is("without TIMES", x.which(), 0);
        }
        x.send(0, 0);
        Due.is("CODE 0 by all", x.which(), 255);
        x.stretch(1);
        Due.is("stretched", x.which(), 255);
        x.set(0, 0, 0);
        Due.is("but for MAKE 0", x.which(), 254);
        x.set(7, 0, 0);
        Due.is("but for MAKES 0, 7", x.which(), 126);
        x.end(4);
        Due.is("by none", x.which(), 0);
        READY.keeps("which", y -> y.which(), 1);
    }

    // ---- promise 10

    @Says(in = 10, is = "Each TIME of THE TAPE (that is one) becomes it and by of a hundred of it, cut")
    private static void stretchCutsEach() {
        OneHandset x = new OneHandset();
        Due.yes("of none", x.stretch(10));
        Due.is("TIMES", x.count(1), 0);
        Due.put(x, 99, 100, 101, 109, 110);
        Due.yes("by 1", x.stretch(1));
        Due.tape("by 1", x, 99, 101, 102, 110, 111);
        Due.put(x, 99, 100, 101, 199, 201);
        Due.yes("by -1", x.stretch(-1));
        Due.tape("by -1", x, 98, 99, 99, 197, 198);
        Due.yes("by 0", x.stretch(0));
        Due.tape("by 0", x, 98, 99, 99, 197, 198);
        Due.put(x, 0, -1, -100, 20001, MIN, MAX, 100);
        Due.yes("by 50", x.stretch(50));
        Due.tape("what are no TIMES stay", x, 0, -1, -100, 20001, MIN, MAX, 150);
        int[] all = filled(120, 100);
        Due.put(x, all);
        Due.yes("all 120", x.stretch(10));
        Due.tape("all 120", x, filled(120, 110));
    }

    @Says(in = 10, is = "(by -60 .. 60), 1 at least, 20000 at most: true.")
    private static void stretchIsAtLeast1AtMost20000() {
        OneHandset x = new OneHandset();
        Due.put(x, 1, 2, 3, 4, 5);
        Due.yes("by -60", x.stretch(-60));
        Due.tape("1 at least", x, 1, 1, 1, 1, 2);
        Due.put(x, 12499, 12500, 12501, 19999, 20000);
        Due.yes("by 60", x.stretch(60));
        Due.tape("20000 at most", x, 19998, 20000, 20000, 20000, 20000);
        Due.put(x, 19801, 19802, 19803, 20000);
        Due.yes("by 1", x.stretch(1));
        Due.tape("20000 at most", x, 19999, 20000, 20000, 20000);
        Due.put(x, 1, 2);
        Due.yes("by -1", x.stretch(-1));
        Due.tape("1 at least", x, 1, 1);
        Due.yes("by 60", x.stretch(60));
        Due.tape("cut", x, 1, 1);
        Due.put(x, 20000);
        Due.yes("by -60", x.stretch(-60));
        Due.tape("by -60", x, 8000);
    }

    @Says(in = 10, is = "Refused: another number.")
    private static void noSuchStretch() {
        for (int by : new int[] {-61, 61, -100, 100, MIN, MAX}) {
            READY.no("stretch(" + by + ")", x -> x.stretch(by));
            FULL.no("stretch(" + by + ")", x -> x.stretch(by));
            FRESH.no("stretch(" + by + ") of none", x -> x.stretch(by));
        }
    }
}
