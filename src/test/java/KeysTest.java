/** Promises 11 to 19: keys. */
public final class KeysTest {
    private static final int MIN = Integer.MIN_VALUE;
    private static final int MAX = Integer.MAX_VALUE;

    public static void main(String[] args) {
        learnKeepsACode();
        learnIsRefused();
        learnLeavesFlipOut();
        forgetAndKey();
        pressSendsAKey();
        pressFlips();
        pressWithoutFlip();
        ofTellsAMake();
        fixedBits();
        checkOfSums();
        checkOfOddBits();
        checkOfContraryHalves();
        checksWithAFlip();
        manyAndForeseen();
        foreseenWithAFlip();
        foreseenOfManyBits();
        bothTellsTheLeast();
        bothIsRefused();
        Due.finish("KeysTest");
    }

    private static OneHandset withMakes(int... bits) {
        OneHandset x = new OneHandset();
        for (int n : bits) {
            x.make(0, n, 900, 450, 56, 60, 168);
        }
        return x;
    }

    private static void learnKeepsACode() {
        OneHandset x = withMakes(8, 8);
        x.send(0, 30);
        Due.is("11: learn", x.learn(0, 0), 30);
        Due.is("11: learn again", x.learn(0, 0), 30);
        Due.is("11: learn as another KEY", x.learn(0, 15), 30);
        Due.is("11: learn by another MAKE", x.learn(1, 0), 30);
        Due.is("11: key", x.key(0, 0), 30);
        Due.is("11: key", x.key(0, 15), 30);
        Due.is("11: KEYS", x.of(0, 4), 2);
        Due.is("11: KEYS", x.of(1, 4), 1);
        Due.is("11: THE TAPE stays", x.count(1), 19);
        x.send(0, 0);
        Due.is("11: learn of CODE 0", x.learn(0, 7), 0);
        Due.is("11: key of CODE 0", x.key(0, 7), 0);
        Due.is("11: KEYS", x.of(0, 4), 3);
    }

    private static void learnIsRefused() {
        OneHandset x = withMakes(8);
        Due.is("11: learn of none", x.learn(0, 0), -1);
        x.send(0, 30);
        for (int k : new int[] {-1, 16, MIN, MAX}) {
            Due.is("11: learn of no KEY", x.learn(0, k), -1);
        }
        for (int m : new int[] {-1, 1, 8, MIN, MAX}) {
            Due.is("11: learn by no MAKE", x.learn(m, 0), -1);
        }
        x.end(18);
        Due.is("11: learn of a FAULT", x.learn(0, 0), -1);
        Due.is("11: KEYS", x.of(0, 4), 0);
        Due.teach(x, 0, 4, 30);
        x.send(0, 31);
        Due.is("11: the KEY has another CODE", x.learn(0, 4), -1);
        Due.is("11: key", x.key(0, 4), 30);
        x.forget(0, 4);
        Due.is("11: learn", x.learn(0, 4), 31);
    }

    private static void learnLeavesFlipOut() {
        OneHandset x = withMakes(8);
        x.set(0, 1, 7);
        x.send(0, 158);
        Due.is("8: read with FLIP", x.read(0), 158);
        Due.is("11: learn", x.learn(0, 0), 30);
        Due.is("13: key", x.key(0, 0), 30);
        x.send(0, 30);
        Due.is("11: the same CODE", x.learn(0, 0), 30);
        x.set(0, 1, 0);
        x.send(0, 31);
        Due.is("11: learn", x.learn(0, 0), 30);
    }

    private static void forgetAndKey() {
        OneHandset x = withMakes(8, 8);
        Due.no("12: forget of none", x.forget(0, 0));
        Due.is("13: key of none", x.key(0, 0), -1);
        Due.teach(x, 0, 0, 30);
        Due.teach(x, 0, 15, 31);
        Due.teach(x, 1, 0, 32);
        for (int k : new int[] {-1, 16, MIN, MAX}) {
            Due.no("12: forget of no KEY", x.forget(0, k));
            Due.is("13: key of no KEY", x.key(0, k), -1);
        }
        for (int m : new int[] {-1, 2, 8, MIN, MAX}) {
            Due.no("12: forget by no MAKE", x.forget(m, 0));
            Due.is("13: key by no MAKE", x.key(m, 0), -1);
        }
        Due.yes("12: forget", x.forget(0, 0));
        Due.no("12: forget again", x.forget(0, 0));
        Due.is("13: key", x.key(0, 0), -1);
        Due.is("13: key", x.key(0, 15), 31);
        Due.is("13: key", x.key(1, 0), 32);
        Due.is("12: KEYS", x.of(0, 4), 1);
        Due.yes("12: forget", x.forget(0, 15));
        Due.is("12: KEYS", x.of(0, 4), 0);
        Due.is("12: KEYS", x.of(1, 4), 1);
    }

    private static void pressSendsAKey() {
        OneHandset x = new OneHandset();
        x.make(1, 2, 10, 20, 30, 40, 80);
        x.make(1, 2, 10, 20, 30, 41, 81);
        Due.teach(x, 0, 3, 2);
        x.feed(7, 7, 7, 7, 7);
        for (int k : new int[] {-1, 0, 2, 4, 16, MIN, MAX}) {
            Due.is("14: press of no KEY", x.press(0, k), -1);
        }
        for (int m : new int[] {-1, 1, 2, 8, MIN, MAX}) {
            Due.is("14: press by no MAKE", x.press(m, 3), -1);
        }
        Due.is("14: THE TAPE stays", x.count(1), 10);
        Due.is("14: press", x.press(0, 3), 5);
        Due.tape("14: press", x, 10, 20, 80, 30, 40);
    }

    private static void pressFlips() {
        OneHandset x = withMakes(8, 8);
        x.set(0, 1, 2);
        x.set(1, 1, 7);
        Due.teach(x, 0, 0, 8);
        Due.teach(x, 0, 1, 3);
        Due.teach(x, 1, 0, 8);
        int[] keys = {0, 0, 1, 1, 1, 0};
        int[] codes = {8, 12, 3, 7, 3, 12};
        for (int i = 0; i < keys.length; i++) {
            Due.is("15: FLIP bit", x.of(0, 6), i % 2);
            Due.is("14: press", x.press(0, keys[i]), 19);
            Due.is("14: the FLIP bit is the other", x.read(0), codes[i]);
            Due.is("14: refused press", x.press(0, 9), -1);
        }
        Due.is("14: the CODE stays", x.key(0, 0), 8);
        x.press(0, 0);
        Due.is("15: FLIP bit", x.of(0, 6), 1);
        Due.is("15: FLIP bit of the other MAKE", x.of(1, 6), 0);
        x.forget(0, 0);
        Due.is("14: forget leaves the FLIP bit", x.of(0, 6), 1);
        Due.no("14: refused set", x.set(0, 1, 8));
        Due.is("14: refused set leaves the FLIP bit", x.of(0, 6), 1);
        Due.yes("14: set MISS", x.set(0, 0, 8));
        Due.is("14: set of MISS leaves the FLIP bit", x.of(0, 6), 1);
        Due.yes("14: set FLIP", x.set(0, 1, 2));
        Due.is("14: told by set() it is 0", x.of(0, 6), 0);
        Due.teach(x, 0, 0, 8);
        x.press(0, 0);
        Due.is("14: from 0 on", x.read(0), 8);
        x.press(0, 0);
        Due.is("14: then 1", x.read(0), 12);
    }

    private static void pressWithoutFlip() {
        OneHandset x = withMakes(8);
        Due.teach(x, 0, 0, 8);
        for (int i = 0; i < 3; i++) {
            x.press(0, 0);
            Due.is("14: no FLIP", x.read(0), 8);
            Due.is("15: FLIP bit without FLIP", x.of(0, 6), 0);
        }
        x.set(0, 1, 0);
        Due.teach(x, 0, 0, 8);
        x.press(0, 0);
        Due.is("14: 0 at first", x.read(0), 8);
    }

    private static void ofTellsAMake() {
        OneHandset x = new OneHandset();
        Due.is("15: of without MAKES", x.of(0, 0), -1);
        x.make(2, 6, 1, 1, 100, 1, 2);
        x.set(0, 0, 33);
        x.set(0, 1, 5);
        Due.teach(x, 0, 2, 7);
        Due.teach(x, 0, 3, 1);
        Due.is("15: KIND", x.of(0, 0), 2);
        Due.is("15: N", x.of(0, 1), 6);
        Due.is("15: MISS", x.of(0, 2), 33);
        Due.is("15: FLIP", x.of(0, 3), 5);
        Due.is("15: KEYS", x.of(0, 4), 2);
        Due.is("15: FIXED", x.of(0, 5), 25);
        Due.is("15: FLIP bit", x.of(0, 6), 0);
        for (int what : new int[] {-1, 7, MIN, MAX}) {
            Due.is("15: another what", x.of(0, what), -1);
        }
        for (int m : new int[] {-1, 1, 8, MIN, MAX}) {
            Due.is("15: of no MAKE", x.of(m, 0), -1);
        }
    }

    private static void fixedBits() {
        OneHandset x = withMakes(24);
        Due.is("15: FIXED of none", x.of(0, 5), 0);
        Due.teach(x, 0, 0, 0xF0F0F0);
        Due.is("15: FIXED of one", x.of(0, 5), 0xFFFFFF);
        Due.teach(x, 0, 1, 0xF0F0FF);
        Due.is("15: FIXED of two", x.of(0, 5), 0xFFFFF0);
        Due.teach(x, 0, 2, 0x00F0F0);
        Due.is("15: FIXED of three", x.of(0, 5), 0x0FFFF0);
        x.forget(0, 1);
        Due.is("15: FIXED after forget", x.of(0, 5), 0x0FFFFF);
        x.set(0, 1, 4);
        Due.teach(x, 0, 0, 3);
        Due.is("15: FIXED less FLIP", x.of(0, 5), 0xFFFFEF);
    }

    private static void checkOfSums() {
        OneHandset x = withMakes(10, 4, 5);
        // two fours above the lowest, the highest of two bits only
        Due.teach(x, 0, 0, 0x150 | (1 + 5 + 5 & 15));
        Due.is("16: one KEY alone", x.check(0, 1), -1);
        Due.teach(x, 0, 1, 0x3F0 | (3 + 15 + 5 & 15));
        Due.is("16: sums", x.check(0, 1), 5);
        Due.is("16: odd bits", x.check(0, 2), -1);
        Due.is("16: contrary", x.check(0, 3), -1);
        Due.teach(x, 0, 2, 0x2E0 | (2 + 14 + 6 & 15));
        Due.is("16: another c", x.check(0, 1), -1);
        x.forget(0, 2);
        Due.is("16: sums again", x.check(0, 1), 5);
        for (int rule : new int[] {-1, 0, 4, MIN, MAX}) {
            Due.is("16: no such CHECK", x.check(0, rule), -1);
        }
        for (int m : new int[] {-1, 3, 8, MIN, MAX}) {
            Due.is("16: no such MAKE", x.check(m, 1), -1);
        }
        for (int rule = 1; rule <= 3; rule++) {
            Due.is("16: no KEYS", x.check(2, rule), -1);
        }
        Due.teach(x, 1, 0, 9);
        Due.teach(x, 1, 1, 9);
        for (int rule = 1; rule <= 3; rule++) {
            Due.is("16: N is not above 4", x.check(1, rule), -1);
        }
        Due.teach(x, 2, 0, 0x1A);
        Due.teach(x, 2, 1, 0x1A);
        Due.is("16: N 5, sums", x.check(2, 1), 9);
        Due.is("16: N 5, odd bits", x.check(2, 2), 11);
        Due.is("16: N odd", x.check(2, 3), -1);
        Due.teach(x, 2, 2, 0x09);
        Due.is("16: N 5, sums", x.check(2, 1), 9);
        Due.is("16: N 5, odd bits", x.check(2, 2), -1);
    }

    private static void checkOfOddBits() {
        OneHandset x = withMakes(24);
        Due.teach(x, 0, 3, 0x123450 | 1 ^ 2 ^ 3 ^ 4 ^ 5 ^ 12);
        Due.teach(x, 0, 9, 0xFEDCB0 | 15 ^ 14 ^ 13 ^ 12 ^ 11 ^ 12);
        Due.is("16: odd bits", x.check(0, 2), 12);
        Due.is("16: sums", x.check(0, 1), -1);
        Due.teach(x, 0, 15, 0x800000 | 8 ^ 12);
        Due.is("16: odd bits of three", x.check(0, 2), 12);
        Due.teach(x, 0, 0, 0x800000 | 8 ^ 13);
        Due.is("16: another c", x.check(0, 2), -1);
        OneHandset y = withMakes(24);
        Due.teach(y, 0, 0, 0x123450 | 1 + 2 + 3 + 4 + 5);
        Due.teach(y, 0, 1, 0xF00000 | 15);
        Due.is("16: c 0", y.check(0, 1), 0);
    }

    private static void checkOfContraryHalves() {
        OneHandset x = withMakes(6, 24, 4, 7);
        Due.teach(x, 0, 0, 0b101010);
        Due.is("16: one KEY alone", x.check(0, 3), -1);
        Due.teach(x, 0, 1, 0b000111);
        Due.is("16: contrary", x.check(0, 3), 0);
        for (int rule : new int[] {-1, 0, 4, MIN, MAX}) {
            Due.is("16: no such CHECK", x.check(0, rule), -1);
        }
        Due.is("17: contrary alone holds", x.check(0, 1) + x.check(0, 2), -2);
        Due.is("17: with contrary", x.many(0), 4);
        int[] foreseen = {0b000111, 0b001110, 0b100011, 0b101010};
        for (int i = 0; i < 4; i++) {
            Due.is("18: with contrary", x.foreseen(0, i), foreseen[i]);
        }
        Due.teach(x, 0, 2, 0b000110);
        Due.is("16: not contrary", x.check(0, 3), -1);
        Due.teach(x, 1, 0, 0xABC543);
        Due.teach(x, 1, 1, 0xABC543);
        Due.is("16: contrary of 24 bits, one CODE twice", x.check(1, 3), 0);
        Due.teach(x, 1, 2, 0xABCD43);
        Due.is("16: not contrary", x.check(1, 3), -1);
        Due.teach(x, 2, 0, 0b1001);
        Due.teach(x, 2, 1, 0b0110);
        Due.is("16: N is 4", x.check(2, 3), -1);
        Due.teach(x, 3, 0, 0b1110000);
        Due.teach(x, 3, 1, 0b1110000);
        Due.is("16: N is odd", x.check(3, 3), -1);
    }

    private static void checksWithAFlip() {
        OneHandset x = withMakes(8);
        x.set(0, 1, 1);
        x.send(0, 0x1E);
        Due.is("11: learn", x.learn(0, 0), 0x1C);
        x.send(0, 0x2D);
        Due.is("11: learn", x.learn(0, 1), 0x2D);
        Due.is("16: odd bits, FLIP 0", x.check(0, 2), -1);
        x.forget(0, 1);
        x.send(0, 0x2F);
        Due.is("11: learn", x.learn(0, 1), 0x2D);
        x.send(0, 0x3C);
        Due.is("11: learn", x.learn(0, 2), 0x3C);
        x.forget(0, 0);
        x.forget(0, 1);
        Due.teach(x, 0, 0, 0x2D);
        Due.is("16: odd bits, FLIP 0", x.check(0, 2), 15);
        Due.is("16: sums, FLIP 0", x.check(0, 1), -1);
        x.set(0, 1, 0);
        Due.teach(x, 0, 0, 0x1E);
        Due.teach(x, 0, 1, 0x3C);
        Due.is("16: contrary with a FLIP", x.check(0, 3), -1);
        Due.is("16: odd bits with a FLIP", x.check(0, 2), 15);
        x.set(0, 1, -1);
        Due.teach(x, 0, 0, 0x1E);
        Due.teach(x, 0, 1, 0x3C);
        Due.is("16: contrary without", x.check(0, 3), 0);
    }

    private static void manyAndForeseen() {
        OneHandset x = withMakes(8, 3);
        Due.is("17: no KEYS", x.many(0), -1);
        Due.is("18: no KEYS", x.foreseen(0, 0), -1);
        for (int m : new int[] {-1, 2, 8, MIN, MAX}) {
            Due.is("17: no MAKE", x.many(m), -1);
            Due.is("18: no MAKE", x.foreseen(m, 0), -1);
        }
        Due.teach(x, 0, 0, 30);
        Due.is("17: one KEY", x.many(0), 1);
        Due.is("18: one KEY", x.foreseen(0, 0), 30);
        Due.is("18: none such", x.foreseen(0, 1), -1);
        Due.teach(x, 0, 1, 45);
        Due.is("17: two KEYS", x.many(0), 4);
        int[] due = {15, 30, 45, 60};
        for (int i = 0; i < 4; i++) {
            Due.is("18: foreseen", x.foreseen(0, i), due[i]);
        }
        for (int i : new int[] {-1, 4, MIN, MAX}) {
            Due.is("18: none such", x.foreseen(0, i), -1);
        }
        Due.teach(x, 0, 2, 50);
        Due.is("17: no CHECK holds", x.many(0), 64);
        for (int i = 0; i < 64; i++) {
            Due.is("18: all CODES of the free bits", x.foreseen(0, i), i);
        }
        x.forget(0, 0);
        Due.is("17: after forget", x.many(0), 32);
        Due.is("18: after forget", x.foreseen(0, 3), 35);
        Due.teach(x, 1, 0, 0);
        Due.teach(x, 1, 1, 7);
        Due.is("17: N 3", x.many(1), 8);
        Due.is("18: N 3", x.foreseen(1, 7), 7);
        x.forget(1, 0);
        x.forget(1, 1);
        Due.is("17: no KEYS any more", x.many(1), -1);
    }

    private static void foreseenWithAFlip() {
        OneHandset x = withMakes(8, 24);
        x.set(0, 1, 6);
        Due.teach(x, 0, 0, 0b10000001);
        Due.is("17: FLIP is not free", x.many(0), 1);
        Due.is("18: FLIP is 0", x.foreseen(0, 0), 0b10000001);
        Due.teach(x, 0, 1, 0b00000010);
        Due.is("17: FLIP is not free", x.many(0), 8);
        int[] due = {0, 1, 2, 3, 128, 129, 130, 131};
        for (int i = 0; i < 8; i++) {
            Due.is("18: FLIP is 0", x.foreseen(0, i), due[i]);
        }
        x.set(1, 1, 20);
        Due.teach(x, 1, 0, 0);
        Due.teach(x, 1, 1, 0x7FFE);
        Due.is("17: 14 free, FLIP apart", x.many(1), 1 << 14);
    }

    private static void foreseenOfManyBits() {
        OneHandset x = withMakes(24);
        Due.teach(x, 0, 0, 0);
        Due.teach(x, 0, 1, 0x3FFF);
        Due.is("16: sums", x.check(0, 1), -1);
        Due.is("17: 14 bits free", x.many(0), 1 << 14);
        Due.is("18: the last", x.foreseen(0, (1 << 14) - 1), 0x3FFF);
        Due.is("18: none such", x.foreseen(0, 1 << 14), -1);
        Due.teach(x, 0, 2, 0x4000);
        Due.is("17: 15 bits free", x.many(0), -1);
        Due.is("18: 15 bits free", x.foreseen(0, 0), -1);
        OneHandset y = withMakes(24);
        // 14 free bits at both ends, with a CHECK of sums (c 0): four of them follow from the others
        Due.teach(y, 0, 0, 0x000000);
        Due.teach(y, 0, 1, 0xFFC000 | (15 + 15 + 12 & 15));
        Due.is("16: sums", y.check(0, 1), 0);
        Due.is("16: odd bits", y.check(0, 2), -1);
        Due.is("17: with a CHECK", y.many(0), countSums());
        Due.is("18: with a CHECK", y.foreseen(0, 0), 0);
        Due.is("18: with a CHECK", y.foreseen(0, y.many(0)), -1);
    }

    /** CODES whose free bits are 0xFFC00A and whose sum of fours is the lowest four. */
    private static int countSums() {
        int found = 0;
        for (int upper = 0; upper < 1 << 10; upper++) {
            int sum = (upper >> 6) + (upper >> 2 & 15) + ((upper & 3) << 2);
            if ((sum & 15 & ~0xA) == 0) {
                found++;
            }
        }
        return found;
    }

    private static void bothTellsTheLeast() {
        OneHandset x = withMakes(8, 8);
        Due.teach(x, 0, 0, 0b00010100);
        Due.teach(x, 0, 1, 0b00011000);
        Due.teach(x, 1, 0, 0b00010110);
        Due.is("19: no CODE of both", x.both(0, 1), -2);
        Due.is("19: no CODE of both", x.both(1, 0), -2);
        Due.teach(x, 1, 1, 0b00011001);
        Due.is("16: no CHECK of 0", x.check(0, 2), -1);
        Due.is("16: no CHECK of 1", x.check(1, 2), -1);
        Due.is("19: the least of both", x.both(0, 1), 0b00010000);
        Due.is("19: the least of both", x.both(1, 0), 0b00010000);
        Due.is("19: of one MAKE twice", x.both(0, 0), 0b00010000);
        x.forget(1, 1);
        x.forget(1, 0);
        Due.teach(x, 1, 0, 0b00011000);
        Due.is("19: the only one", x.both(0, 1), 0b00011000);
        OneHandset y = withMakes(8, 8);
        Due.teach(y, 0, 0, 30);
        Due.teach(y, 0, 1, 45);
        Due.teach(y, 1, 0, 61);
        Due.teach(y, 1, 1, 62);
        Due.teach(y, 1, 2, 0);
        Due.is("19: CHECKS of one", y.both(0, 1), 15);
        Due.is("19: CHECKS of the other", y.both(1, 0), 15);
        y.set(1, 1, 1);
        Due.teach(y, 1, 0, 45);
        Due.teach(y, 1, 1, 60);
        Due.is("19: FLIP of the other is 0", y.both(0, 1), 45);
        Due.is("19: FLIP of the other is 0", y.both(1, 0), 45);
        y.forget(0, 1);
        Due.is("19: FLIP of the other is 0", y.both(0, 1), -2);
    }

    private static void bothIsRefused() {
        OneHandset x = withMakes(24, 24, 8);
        Due.is("19: no KEYS", x.both(0, 1), -1);
        Due.teach(x, 0, 0, 5);
        Due.is("19: no KEYS of b", x.both(0, 1), -1);
        Due.is("19: no KEYS of a", x.both(1, 0), -1);
        Due.teach(x, 2, 0, 5);
        Due.is("19: unlike N", x.both(0, 2), -1);
        Due.is("19: unlike N", x.both(2, 0), -1);
        Due.teach(x, 1, 0, 0);
        Due.is("19: none", x.both(0, 1), -2);
        Due.teach(x, 1, 1, 0x7FFF);
        Due.is("19: 15 bits free of b", x.both(0, 1), -1);
        Due.is("19: 15 bits free of a", x.both(1, 0), -1);
        for (int m : new int[] {-1, 3, 8, MIN, MAX}) {
            Due.is("19: no MAKE", x.both(0, m), -1);
            Due.is("19: no MAKE", x.both(m, 0), -1);
        }
    }
}
