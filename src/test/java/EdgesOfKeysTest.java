/** The boundaries of promises 11 to 19; what is refused is looked at with Twins, which see that nothing changes. */
public final class EdgesOfKeysTest {
    private static final int MIN = Integer.MIN_VALUE;
    private static final int MAX = Integer.MAX_VALUE;
    private static final Twins FRESH = new Twins(States::fresh);
    private static final Twins READY = new Twins(States::ready);
    private static final Twins FULL = new Twins(States::full);
    private static final int[] NO_KEYS = {-1, 16, MIN, MAX};
    private static final int[] NO_MAKES = {-1, 5, 8, MIN, MAX};

    public static void main(String[] args) throws ReflectiveOperationException {
        Edges.run(EdgesOfKeysTest.class);
    }

    private static OneHandset withMakes(int... bits) {
        OneHandset x = new OneHandset();
        for (int n : bits) {
            x.make(0, n, 900, 450, 56, 60, 168);
        }
        return x;
    }

    private static void learnAll(OneHandset x, int make, int... codes) {
        for (int key = 0; key < codes.length; key++) {
            Due.teach(x, make, key, codes[key]);
        }
    }

    // ---- promise 11

    @Says(in = 11, is = "THE TAPE is LEARNT as a KEY of a MAKE: its CODE (FLIP 0).")
    private static void learnOfTheFirstAndLast() {
        OneHandset x = withMakes(1, 24);
        for (int key : new int[] {0, 15}) {
            Due.teach(x, 0, key, key % 2);
            Due.is("key", x.key(0, key), key % 2);
            int code = key == 0 ? 0 : (1 << 24) - 1;
            Due.teach(x, 1, key, code);
            Due.is("key", x.key(1, key), code);
        }
        for (int flip : new int[] {0, 23}) {
            x.set(1, 1, flip);
            x.send(1, (1 << 24) - 1);
            Due.is("FLIP 0", x.learn(1, 0), (1 << 24) - 1 - (1 << flip));
            Due.is("THE TAPE stays", x.read(1), (1 << 24) - 1);
        }
        x.set(0, 1, 0);
        x.send(0, 1);
        Due.is("a CODE of FLIP alone", x.learn(0, 0), 0);
    }

    @Says(in = 11, is = "Refused: no such MAKE, KEY")
    private static void learnOfNoMakeOrKey() {
        FRESH.none("without MAKES", x -> x.learn(0, 0));
        for (int make : NO_MAKES) {
            READY.none("MAKE " + make, x -> x.learn(make, 1));
        }
        for (int key : NO_KEYS) {
            READY.none("KEY " + key, x -> x.learn(0, key));
        }
        FULL.none("MAKE 8", x -> x.learn(8, 0));
        OneHandset x = States.inReady();
        Due.is("KEY 1", x.learn(0, 1), 6);
        Due.is("KEY 14", x.learn(0, 14), 6);
    }

    @Says(in = 11, is = ", a FAULT")
    private static void learnOfAFault() {
        READY.none("THE TAPE of another MAKE", x -> x.learn(1, 0));
        READY.none("THE TAPE of another MAKE, a KEY that is LEARNT", x -> x.learn(1, 3));
        Twins early = new Twins(x -> {
            States.ready(x);
            x.end(8);
        });
        early.none("the end is too early", x -> x.learn(0, 1));
        Twins late = new Twins(x -> {
            States.ready(x);
            x.feed(56, 56, 56, 56, 56);
            x.end(10);
        });
        late.none("one too many", x -> x.learn(0, 1));
        Twins stretched = new Twins(x -> {
            States.ready(x);
            x.stretch(1);
        });
        stretched.none("a TIME too long", x -> x.learn(0, 1));
        Twins empty = new Twins(x -> {
            States.ready(x);
            x.end(0);
        });
        empty.none("no TIMES", x -> x.learn(2, 0));
    }

    @Says(in = 11, is = "the KEY has another CODE.")
    private static void learnOfAnotherCode() {
        READY.none("KEY 0 has 5, not 6", x -> x.learn(0, 0));
        READY.none("KEY 15 has 2, not 6", x -> x.learn(0, 15));
        Twins same = new Twins(x -> {
            States.ready(x);
            x.send(0, 5);
        });
        same.keeps("KEY 0 has 5", x -> x.learn(0, 0), 5);
        Twins flipped = new Twins(x -> {
            States.ready(x);
            x.send(1, 30 + 128);
        });
        flipped.keeps("KEY 3 has it but for FLIP", x -> x.learn(1, 3), 30);
        flipped.none("KEY 4 has another", x -> x.learn(1, 4));
        OneHandset x = withMakes(8);
        learnAll(x, 0, 30);
        x.send(0, 31);
        Due.is("KEY 0 has another", x.learn(0, 0), -1);
        x.forget(0, 0);
        Due.is("it has none", x.learn(0, 0), 31);
        OneHandset y = withMakes(8);
        learnAll(y, 0, 0);
        y.send(0, 1);
        Due.is("KEY 0 has CODE 0", y.learn(0, 0), -1);
        Due.is("KEY 0 has CODE 0", y.key(0, 0), 0);
    }

    // ---- promise 12

    @Says(in = 12, is = "A KEY is not LEARNT any more: true")
    private static void forgetOfTheFirstAndLast() {
        OneHandset x = withMakes(8, 8);
        for (int key : new int[] {0, 15}) {
            Due.teach(x, 0, key, key);
            Due.teach(x, 1, key, key);
        }
        Due.yes("forget(0, 15)", x.forget(0, 15));
        Due.is("key", x.key(0, 15), -1);
        Due.is("the other KEY", x.key(0, 0), 0);
        Due.is("the other MAKE", x.key(1, 15), 15);
        Due.yes("forget(0, 0)", x.forget(0, 0));
        Due.is("KEYS", x.of(0, 4), 0);
        Due.is("KEYS of the other MAKE", x.of(1, 4), 2);
    }

    @Says(in = 12, is = "false if it was not, or there is none such.")
    private static void forgetOfNone() {
        FRESH.no("without MAKES", x -> x.forget(0, 0));
        for (int key : new int[] {1, 14}) {
            READY.no("KEY " + key + " was not LEARNT", x -> x.forget(0, key));
        }
        READY.no("a MAKE without KEYS", x -> x.forget(2, 0));
        for (int key : NO_KEYS) {
            READY.no("KEY " + key, x -> x.forget(0, key));
            FULL.no("KEY " + key, x -> x.forget(7, key));
        }
        for (int make : NO_MAKES) {
            READY.no("MAKE " + make, x -> x.forget(make, 0));
        }
        FULL.no("MAKE 8", x -> x.forget(8, 0));
        OneHandset x = States.inReady();
        Due.yes("once", x.forget(0, 0));
        Due.no("twice", x.forget(0, 0));
    }

    // ---- promise 13

    @Says(in = 13, is = "The CODE of a KEY; NONE if it is not LEARNT, or none such.")
    private static void keyOfNone() {
        FRESH.none("without MAKES", x -> x.key(0, 0));
        READY.keeps("KEY 0", x -> x.key(0, 0), 5);
        READY.keeps("KEY 15", x -> x.key(0, 15), 2);
        READY.none("KEY 1 is not LEARNT", x -> x.key(0, 1));
        READY.none("KEY 14 is not LEARNT", x -> x.key(0, 14));
        for (int key : NO_KEYS) {
            READY.none("KEY " + key, x -> x.key(0, key));
        }
        for (int make : NO_MAKES) {
            READY.none("MAKE " + make, x -> x.key(make, 0));
        }
        FULL.keeps("KEY 15 of MAKE 7", x -> x.key(7, 15), 1500);
        FULL.none("KEY 16 of MAKE 7", x -> x.key(7, 16));
        FULL.none("MAKE 8", x -> x.key(8, 15));
    }

    // ---- promise 14

    @Says(in = 14, is = "its FLIP bit as the MAKE has it now, which is the other one then (0 at first; told by set() it is 0)")
    private static void pressFlips() {
        for (int flip : new int[] {0, 7}) {
            OneHandset x = withMakes(8, 8);
            x.set(0, 1, flip);
            x.set(1, 1, flip);
            learnAll(x, 0, 6, 72);
            learnAll(x, 1, 6);
            for (int i = 0; i < 6; i++) {
                Due.is("the FLIP bit", x.of(0, 6), i % 2);
                Due.is("press", x.press(0, i / 2 % 2), 19);
                Due.is("sent", x.read(0), (i / 2 % 2 == 0 ? 6 : 72) + (i % 2 << flip));
            }
            x.press(0, 0);
            Due.is("the FLIP bit", x.of(0, 6), 1);
            Due.is("the FLIP bit of the other MAKE", x.of(1, 6), 0);
            Due.yes("the same FLIP told", x.set(0, 1, flip));
            Due.is("told by set() it is 0", x.of(0, 6), 0);
            learnAll(x, 0, 6);
            x.press(0, 0);
            Due.is("told by set() it is 0", x.read(0), 6);
            x.set(0, 0, 3);
            Due.is("MISS told leaves it", x.of(0, 6), 1);
            x.forget(0, 0);
            Due.is("forget leaves it", x.of(0, 6), 1);
        }
    }

    @Says(in = 14, is = "THE TAPE is the Flashes of a KEY")
    private static void pressOfTheFirstAndLast() {
        OneHandset x = withMakes(1, 24);
        x.feed(1, 1, 1, 1, 1);
        Due.teach(x, 0, 0, 1);
        Due.teach(x, 1, 15, (1 << 24) - 1);
        Due.is("press of 1 bit", x.press(0, 0), 5);
        Due.tape("press of 1 bit", x, 900, 450, 56, 168, 56);
        Due.is("press of 24 bits", x.press(1, 15), 51);
        Due.is("press of 24 bits", x.read(1), (1 << 24) - 1);
        OneHandset y = new OneHandset();
        States.full(y);
        Due.is("press onto 120 TIMES", y.press(7, 15), 23);
        Due.is("TIMES", y.count(1), 23);
        Due.is("sent", y.read(7), 1500);
    }

    @Says(in = 14, is = "Refused: it is not LEARNT, none such.")
    private static void pressOfNone() {
        FRESH.none("without MAKES", x -> x.press(0, 0));
        READY.none("KEY 2 is not LEARNT", x -> x.press(1, 2));
        READY.none("KEY 5 is not LEARNT", x -> x.press(1, 5));
        READY.none("a MAKE without KEYS", x -> x.press(2, 0));
        for (int key : NO_KEYS) {
            READY.none("KEY " + key, x -> x.press(1, key));
            FULL.none("KEY " + key, x -> x.press(7, key));
        }
        for (int make : NO_MAKES) {
            READY.none("MAKE " + make, x -> x.press(make, 3));
        }
        FULL.none("MAKE 8", x -> x.press(8, 0));
        OneHandset x = States.inReady();
        x.forget(1, 3);
        Due.is("forgotten", x.press(1, 3), -1);
        Due.is("the FLIP bit stays", x.of(1, 6), 1);
    }

    // ---- promise 15

    @Says(in = 15, is = "Of a MAKE, what 0: KIND, 1: N, 2: MISS, 3: FLIP, 4: KEYS that are LEARNT, 5: FIXED, as bits")
    private static void ofAtItsEnds() {
        OneHandset x = new OneHandset();
        x.make(0, 1, 900, 450, 56, 60, 168);
        x.make(2, 24, 900, 450, 56, 60, 168);
        x.set(0, 0, 0);
        x.set(1, 0, 40);
        x.set(0, 1, 0);
        int[] least = {0, 1, 0, 0, 0, 0, 0};
        for (int what = 0; what < 7; what++) {
            Due.is("of(0, " + what + ")", x.of(0, what), least[what]);
        }
        x.set(1, 1, 23);
        x.send(1, 5);
        for (int key = 0; key < 16; key++) {
            x.learn(1, key);
        }
        x.press(1, 0);
        int[] most = {2, 24, 40, 23, 16, (1 << 23) - 1, 1};
        for (int what = 0; what < 7; what++) {
            Due.is("of(1, " + what + ")", x.of(1, what), most[what]);
        }
    }

    @Says(in = 15, is = "6: the FLIP bit with which the next press() is sent (0)")
    private static void ofTheFlipBit() {
        OneHandset x = withMakes(8);
        Due.is("at first", x.of(0, 6), 0);
        learnAll(x, 0, 6);
        x.press(0, 0);
        Due.is("without FLIP", x.of(0, 6), 0);
        x.set(0, 1, 7);
        Due.is("with FLIP", x.of(0, 6), 0);
        learnAll(x, 0, 6);
        x.press(0, 0);
        Due.is("pressed once", x.of(0, 6), 1);
        x.press(0, 0);
        Due.is("sent with it", x.read(0), 134);
        Due.is("pressed twice", x.of(0, 6), 0);
        x.press(0, 0);
        x.set(0, 1, -1);
        Due.is("without FLIP again", x.of(0, 6), 0);
    }

    @Says(in = 15, is = "NONE: none such, another what.")
    private static void ofNone() {
        FRESH.none("without MAKES", x -> x.of(0, 0));
        for (int make : NO_MAKES) {
            for (int what = 0; what < 7; what++) {
                int w = what;
                READY.none("MAKE " + make + ", what " + what, x -> x.of(make, w));
            }
        }
        for (int what : new int[] {-1, 7, MIN, MAX}) {
            READY.none("what " + what, x -> x.of(0, what));
        }
        FULL.none("MAKE 8", x -> x.of(8, 0));
        FULL.keeps("MAKE 7", x -> x.of(7, 1), 11);
    }

    // ---- promise 16

    @Says(in = 16, is = "c by which a CHECK (1, 2) of a MAKE holds; of 3: 0.")
    private static void checkTellsC() {
        OneHandset x = withMakes(5, 24, 6);
        learnAll(x, 0, 0b10001, 0b00000);
        Due.is("c 0 of sums", x.check(0, 1), 0);
        Due.is("c 0 of odd bits", x.check(0, 2), 0);
        learnAll(x, 1, 0x00000F, 0xF0000E);
        Due.is("c 15 of sums", x.check(1, 1), 15);
        Due.is("odd bits", x.check(1, 2), -1);
        x.set(1, 1, -1);
        learnAll(x, 1, 0x00000F, 0xF00000);
        Due.is("sums", x.check(1, 1), -1);
        Due.is("c 15 of odd bits", x.check(1, 2), 15);
        learnAll(x, 2, 0b000111, 0b111000);
        Due.is("of 3", x.check(2, 3), 0);
    }

    @Says(in = 16, is = "NONE: it does not hold; none such.")
    private static void checkOfNone() {
        FRESH.none("without MAKES", x -> x.check(0, 1));
        for (int make : NO_MAKES) {
            for (int rule = 1; rule <= 3; rule++) {
                int r = rule;
                READY.none("MAKE " + make, x -> x.check(make, r));
            }
        }
        for (int rule : new int[] {0, 4, -1, MIN, MAX}) {
            READY.none("CHECK " + rule, x -> x.check(3, rule));
        }
        READY.none("sums do not hold", x -> x.check(3, 1));
        READY.keeps("odd bits hold", x -> x.check(3, 2), 15);
        READY.keeps("contrary bits hold", x -> x.check(3, 3), 0);
        READY.none("never with a FLIP", x -> x.check(1, 3));
        READY.none("no KEYS", x -> x.check(2, 1));
        for (int rule = 1; rule <= 3; rule++) {
            int r = rule;
            READY.none("3 bits", x -> x.check(0, r));
            FULL.none("MAKE 8", x -> x.check(8, r));
        }
    }

    // ---- promise 17

    @Says(in = 17, is = "How many CODES are FORESEEN.")
    private static void manyAtItsEnds() {
        OneHandset x = withMakes(1, 14, 8);
        learnAll(x, 0, 0);
        Due.is("the only one", x.many(0), 1);
        learnAll(x, 0, 0, 1);
        Due.is("all of 1 bit", x.many(0), 2);
        learnAll(x, 1, 0, 0x3FFF, 1);
        Due.is("all of 14 bits", x.many(1), 1 << 14);
        learnAll(x, 2, 0x0F, 0xF0);
        Due.is("contrary and odd bits", x.check(2, 2), 15);
        Due.is("sums", x.check(2, 1), -1);
        Due.is("CHECKS that say the same", x.many(2), 16);
        x.set(0, 1, 0);
        x.send(0, 1);
        x.learn(0, 0);
        Due.is("FLIP alone", x.many(0), 1);
    }

    @Says(in = 17, is = "NONE: no such MAKE, more than 14 bits not FIXED, no KEYS.")
    private static void manyOfNone() {
        FRESH.none("without MAKES", x -> x.many(0));
        for (int make : NO_MAKES) {
            READY.none("MAKE " + make, x -> x.many(make));
        }
        READY.none("15 bits not FIXED", x -> x.many(4));
        READY.none("no KEYS", x -> x.many(2));
        READY.keeps("KEYS", x -> x.many(0), 8);
        FULL.none("MAKE 8", x -> x.many(8));
        OneHandset x = withMakes(24);
        learnAll(x, 0, 0, 0x3FFF);
        Due.is("14 bits not FIXED", x.many(0), 1 << 14);
        learnAll(x, 0, 0, 0x3FFF, 0x800000);
        Due.is("15 bits not FIXED", x.many(0), -1);
        for (int key = 0; key < 3; key++) {
            x.forget(0, key);
        }
        Due.is("no KEYS any more", x.many(0), -1);
    }

    // ---- promise 18

    @Says(in = 18, is = "The i-th of them, ascending (0: the least).")
    private static void foreseenAscends() {
        OneHandset x = withMakes(8, 24, 24);
        learnAll(x, 0, 30, 45);
        int[] due = {15, 30, 45, 60};
        for (int i = 0; i < 4; i++) {
            Due.is("foreseen(0, " + i + ")", x.foreseen(0, i), due[i]);
        }
        learnAll(x, 1, 0, 0x3FFF, 1);
        Due.is("the least of 14 bits", x.foreseen(1, 0), 0);
        Due.is("the middle of 14 bits", x.foreseen(1, 0x2000), 0x2000);
        Due.is("the most of 14 bits", x.foreseen(1, 0x3FFF), 0x3FFF);
        // the third is so that no CHECK holds
        learnAll(x, 2, 0x7F, 0xFE007E, 0x7E);
        Due.is("the least, free bits at both ends", x.foreseen(2, 0), 0x7E);
        Due.is("the second", x.foreseen(2, 1), 0x7F);
        Due.is("the third", x.foreseen(2, 2), 0x02007E);
        Due.is("the most", x.foreseen(2, 255), 0xFE007F);
    }

    @Says(in = 18, is = "NONE as many(), or none such.")
    private static void foreseenOfNone() {
        FRESH.none("without MAKES", x -> x.foreseen(0, 0));
        for (int make : NO_MAKES) {
            READY.none("MAKE " + make, x -> x.foreseen(make, 0));
        }
        READY.none("15 bits not FIXED", x -> x.foreseen(4, 0));
        READY.none("no KEYS", x -> x.foreseen(2, 0));
        READY.keeps("the last", x -> x.foreseen(0, 7), 7);
        for (int i : new int[] {8, -1, 1 << 14, MIN, MAX}) {
            READY.none("none such: " + i, x -> x.foreseen(0, i));
        }
        OneHandset x = withMakes(24);
        learnAll(x, 0, 0, 0x3FFF);
        Due.is("the last of 2^14", x.foreseen(0, (1 << 14) - 1), 0x3FFF);
        for (int i : new int[] {1 << 14, (1 << 14) + 1, -1, MIN, MAX}) {
            Due.is("none such: " + i, x.foreseen(0, i), -1);
        }
        OneHandset y = withMakes(1);
        learnAll(y, 0, 1);
        Due.is("the only one", y.foreseen(0, 0), 1);
        Due.is("none such", y.foreseen(0, 1), -1);
    }

    // ---- promise 19

    @Says(in = 19, is = "The least CODE that is FORESEEN of MAKE a and of MAKE b")
    private static void bothTellsTheLeast() {
        OneHandset x = withMakes(24, 24);
        learnAll(x, 0, 0x000000, 0x003FFF);
        learnAll(x, 1, 0x003FFF);
        Due.is("the most of the one", x.both(0, 1), 0x3FFF);
        Due.is("the most of the other", x.both(1, 0), 0x3FFF);
        learnAll(x, 1, 0x003FFF, 0x000000);
        Due.is("the least of both", x.both(0, 1), 0);
        learnAll(x, 1, 0x003FFF, 0x000000, 0x000001);
        Due.is("with itself", x.both(1, 1), 0);
    }

    @Says(in = 19, is = "-2: none")
    private static void bothTellsNone() {
        OneHandset x = withMakes(8, 8, 24, 24);
        learnAll(x, 0, 5);
        learnAll(x, 1, 4);
        Due.is("unlike", x.both(0, 1), -2);
        Due.is("unlike", x.both(1, 0), -2);
        learnAll(x, 1, 4, 5);
        Due.is("5", x.both(0, 1), 5);
        learnAll(x, 2, 0x000000, 0x003FFF);
        learnAll(x, 3, 0x800000, 0x803FFF);
        Due.is("one bit unlike", x.both(2, 3), -2);
        x.set(1, 1, 0);
        learnAll(x, 1, 4, 6);
        Due.is("5 has the FLIP bit of the other", x.both(0, 1), -2);
        Due.is("5 has the FLIP bit of the other", x.both(1, 0), -2);
    }

    @Says(in = 19, is = "N of both alike (KEYS of both)")
    private static void bothOfNAlike() {
        OneHandset x = withMakes(8, 8, 7, 9);
        learnAll(x, 0, 5);
        Due.is("KEYS of one", x.both(0, 1), -1);
        Due.is("KEYS of one", x.both(1, 0), -1);
        learnAll(x, 1, 5);
        Due.is("KEYS of both", x.both(0, 1), 5);
        learnAll(x, 2, 5);
        learnAll(x, 3, 5);
        Due.is("one bit fewer", x.both(0, 2), -1);
        Due.is("one bit more", x.both(0, 3), -1);
        x.forget(0, 0);
        Due.is("KEYS of the other", x.both(0, 1), -1);
        Due.is("KEYS of neither", x.both(0, 0), -1);
    }

    @Says(in = 19, is = "NONE as many(), or unlike N.")
    private static void bothOfNone() {
        FRESH.none("without MAKES", x -> x.both(0, 0));
        for (int make : NO_MAKES) {
            READY.none("MAKES 3, " + make, x -> x.both(3, make));
            READY.none("MAKES " + make + ", 3", x -> x.both(make, 3));
        }
        READY.none("15 bits not FIXED", x -> x.both(4, 4));
        READY.none("no KEYS", x -> x.both(2, 2));
        READY.none("unlike N", x -> x.both(0, 1));
        READY.keeps("N alike", x -> x.both(1, 3), 30);
        READY.keeps("N alike", x -> x.both(3, 1), 30);
        OneHandset x = withMakes(24, 24);
        learnAll(x, 0, 0);
        learnAll(x, 1, 0, 0x3FFF);
        Due.is("14 bits not FIXED", x.both(0, 1), 0);
        Due.is("14 bits not FIXED", x.both(1, 0), 0);
        learnAll(x, 1, 0, 0x3FFF, 0x4000);
        Due.is("15 bits not FIXED", x.both(0, 1), -1);
        Due.is("15 bits not FIXED", x.both(1, 0), -1);
    }
}
