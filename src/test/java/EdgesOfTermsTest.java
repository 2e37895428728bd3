import java.util.Arrays;

/** The boundaries that the document's Terms name: the last value inside each, and the first beyond it. */
public final class EdgesOfTermsTest {
    private static final int MIN = Integer.MIN_VALUE;
    private static final int MAX = Integer.MAX_VALUE;

    public static void main(String[] args) throws ReflectiveOperationException {
        Edges.run(EdgesOfTermsTest.class);
    }

    /** One MAKE of one bit with these numbers and this MISS. */
    private static OneHandset one(int kind, int miss, int a, int b, int p, int z, int o) {
        OneHandset x = new OneHandset();
        Due.is("make", x.make(kind, 1, a, b, p, z, o), 0);
        Due.yes("set MISS " + miss, x.set(0, 0, miss));
        return x;
    }

    private static OneHandset bits(int kind, int n) {
        OneHandset x = new OneHandset();
        Due.is("make of " + n + " bits", x.make(kind, n, 900, 450, 56, 60, 168), 0);
        return x;
    }

    private static void reads(String call, OneHandset x, int due, int... times) {
        Due.put(x, times);
        Due.is(call + " " + Arrays.toString(times), x.read(0), due);
    }

    // ---- calls

    @Says(in = 0, is = "An object is used for at most 512 calls after it has been made")
    private static void theLast512thCallAnswers() {
        OneHandset x = new OneHandset();
        x.make(0, 8, 900, 450, 56, 60, 168);
        x.set(0, 1, 0);
        x.send(0, 31);
        x.learn(0, 0);
        for (int call = 5; call <= 511; call++) {
            x.press(0, 0);
        }
        // 507 presses: the last was sent with FLIP 0
        Due.is("the 512th call", x.read(0), 30);
    }

    // ---- makes, flashes

    @Says(in = 0, is = "a row of TIMES 1 .. 20000")
    private static void timesAre1To20000() {
        OneHandset x = one(2, 40, 1, 1, 9999, 1, 2);
        reads("20000 FITS 19998", x, 0, 20000);
        reads("20001 is no TIME", x, -2, 20001);
        OneHandset y = one(0, 40, 1, 1, 1, 1, 2);
        reads("1 FITS 1", y, 0, 1, 1, 1, 1, 1);
        reads("0 is no TIME", y, -2, 0, 1, 1, 1, 1);
        Due.put(y, 0, 1, 20000, 20001, -1);
        y.stretch(-50);
        Due.tape("TIMES alone are stretched", y, 0, 1, 10000, 20001, -1);
    }

    @Says(in = 0, is = "the first ON, the second OFF, and so on")
    private static void theFirstIsOn() {
        OneHandset x = bits(2, 1);
        reads("ON of two HALVES, OFF", x, 0, 112, 56);
        reads("ON, OFF, ON", x, 1, 56, 56, 56);
        reads("ON, OFF of two HALVES", x, -3, 56, 112);
    }

    @Says(in = 0, is = "THE TAPE: at most 120 TIMES.")
    private static void theTapeHas120() {
        OneHandset x = new OneHandset();
        for (int i = 1; i <= 24; i++) {
            Due.is("feed", x.feed(i, i, i, i, 1000 + i), 5 * i);
        }
        Due.is("TIMES", x.count(1), 120);
        Due.is("the last", x.time(119), 1024);
        Due.is("feed beyond", x.feed(1, 1, 1, 1, 1), -1);
        Due.is("TIMES", x.count(1), 120);
        Due.noTime("beyond", x, 120);
    }

    @Says(in = 0, is = "MAKES 0 .. (at most 8)")
    private static void makesAre8() {
        OneHandset x = new OneHandset();
        for (int i = 0; i < 8; i++) {
            Due.is("there is no MAKE " + i, x.of(i, 1), -1);
            Due.is("make", x.make(0, 10 + i, 900, 450, 56, 60, 168), i);
            Due.is("N of MAKE " + i, x.of(i, 1), 10 + i);
        }
        Due.is("a ninth", x.make(0, 4, 900, 450, 56, 60, 168), -1);
        Due.is("there is no MAKE 8", x.of(8, 1), -1);
        Due.is("there is no MAKE -1", x.of(-1, 1), -1);
        Due.is("MAKES", x.count(0), 8);
    }

    @Says(in = 0, is = "KIND 0 DISTANCE: ON a, OFF b; of each bit ON p, OFF z (bit 0) or o (1); at last ON p.")
    private static void distanceEndsWithOn() {
        OneHandset x = one(0, 0, 900, 450, 56, 60, 168);
        x.send(0, 0);
        Due.tape("bit 0", x, 900, 450, 56, 60, 56);
        x.send(0, 1);
        Due.tape("bit 1", x, 900, 450, 56, 168, 56);
        reads("without the last ON", x, -2 - 4, 900, 450, 56, 168);
        reads("with an OFF behind it", x, -2 - 5, 900, 450, 56, 168, 56, 60);
        Due.is("KIND 0", x.of(0, 0), 0);
        Due.is("KIND -1", x.make(-1, 1, 900, 450, 56, 60, 168), -1);
    }

    @Says(in = 0, is = "1 WIDTH: ON a, OFF b; of each bit ON z or o, OFF p; but none behind the last ON.")
    private static void widthEndsWithOn() {
        OneHandset x = one(1, 0, 900, 450, 56, 60, 168);
        x.send(0, 0);
        Due.tape("bit 0", x, 900, 450, 60);
        x.send(0, 1);
        Due.tape("bit 1", x, 900, 450, 168);
        reads("the last ON", x, 1, 900, 450, 168);
        reads("without the last ON", x, -2 - 2, 900, 450);
        reads("with an OFF behind it", x, -2 - 3, 900, 450, 168, 56);
        OneHandset y = bits(1, 2);
        y.send(0, 2);
        Due.tape("two bits", y, 900, 450, 168, 56, 60);
    }

    @Says(in = 0, is = "2 HALVES: each bit two HALVES of p: 0: ON, OFF; 1: OFF, ON; ahead of them one HALF ON")
    private static void halvesBeginWithOneOn() {
        OneHandset x = bits(2, 1);
        x.send(0, 1);
        Due.tape("the HALF ahead is a TIME of its own", x, 56, 56, 56);
        x.send(0, 0);
        Due.tape("the HALF ahead is one TIME with the bit's", x, 112);
        Due.is("KIND 2", x.of(0, 0), 2);
        Due.is("KIND 3", x.make(3, 1, 900, 450, 56, 60, 168), -1);
    }

    @Says(in = 0, is = "what follows another alike is one TIME with it (p or twice p; never more)")
    private static void halvesAreNeverThree() {
        OneHandset x = bits(2, 4);
        for (int code = 0; code < 16; code++) {
            int size = x.send(0, code);
            int halves = 0;
            for (int i = 0; i < size; i++) {
                Due.yes("p or twice p in CODE " + code, x.time(i) == 56 || x.time(i) == 112);
                halves += x.time(i) / 56;
            }
            Due.is("HALVES of CODE " + code, halves, code % 2 == 0 ? 8 : 9);
        }
        OneHandset y = one(2, 40, 1, 1, 100, 1, 2);
        reads("three HALVES are no TIME of it", y, -2, 300);
    }

    @Says(in = 0, is = "an OFF at the very end is left off")
    private static void halvesEndWithOn() {
        OneHandset x = bits(2, 2);
        Due.is("send(0, 0)", x.send(0, 0), 3);
        Due.tape("00", x, 112, 56, 56);
        Due.is("send(0, 2)", x.send(0, 2), 3);
        Due.tape("10", x, 56, 56, 112);
        Due.is("send(0, 1)", x.send(0, 1), 3);
        Due.tape("01", x, 112, 112, 56);
        Due.is("send(0, 3)", x.send(0, 3), 5);
        Due.tape("11", x, 56, 56, 56, 56, 56);
    }

    @Says(in = 0, is = "N bits (1 .. 24)")
    private static void bitsAre1To24() {
        for (int kind = 0; kind < 3; kind++) {
            OneHandset x = new OneHandset();
            for (int n : new int[] {0, 25, -1, 32, MIN, MAX}) {
                Due.is("N " + n, x.make(kind, n, 900, 450, 56, 60, 168), -1);
            }
            Due.is("N 1", x.make(kind, 1, 900, 450, 56, 60, 168), 0);
            Due.is("N 24", x.make(kind, 24, 900, 450, 56, 60, 168), 1);
            for (int code = 0; code < 2; code++) {
                x.send(0, code);
                Due.is("read of 1 bit", x.read(0), code);
            }
            for (int code : new int[] {0, 1 << 23, (1 << 24) - 1}) {
                x.send(1, code);
                Due.is("read of 24 bits", x.read(1), code);
            }
        }
    }

    @Says(in = 0, is = "numbers a, b, p, z, o (1 .. 9999 each")
    private static void numbersAre1To9999() {
        for (int kind = 0; kind < 3; kind++) {
            for (int which = 0; which < 5; which++) {
                OneHandset x = new OneHandset();
                for (int v : new int[] {0, 10000, -1, MIN, MAX}) {
                    Due.is("number " + which + " is " + v, withNumber(x, kind, which, v), -1);
                }
                Due.is("number " + which + " is 1", withNumber(x, kind, which, 1), 0);
                Due.is("number " + which + " is 9999", withNumber(x, kind, which, 9999), 1);
                Due.is("MAKES", x.count(0), 2);
            }
        }
        OneHandset y = one(0, 0, 9999, 1, 9999, 1, 9999);
        y.send(0, 1);
        Due.tape("the numbers are kept", y, 9999, 1, 9999, 9999, 9999);
        y.send(0, 0);
        Due.tape("the numbers are kept", y, 9999, 1, 9999, 1, 9999);
    }

    private static int withNumber(OneHandset x, int kind, int which, int v) {
        int[] t = {900, 450, 56, 60, 168};
        t[which] = v;
        return x.make(kind, 4, t[0], t[1], t[2], t[3], t[4]);
    }

    @Says(in = 0, is = "z and o unlike")
    private static void numbersZAndOAreUnlike() {
        OneHandset x = new OneHandset();
        for (int kind = 0; kind < 3; kind++) {
            Due.is("alike, KIND " + kind, x.make(kind, 4, 60, 60, 60, 60, 60), -1);
            Due.is("alike 1, KIND " + kind, x.make(kind, 4, 900, 450, 56, 1, 1), -1);
            Due.is("alike 9999, KIND " + kind, x.make(kind, 4, 900, 450, 56, 9999, 9999), -1);
            Due.is("one less, KIND " + kind, x.make(kind, 4, 60, 60, 60, 60, 59), 2 * kind);
            Due.is("one more, KIND " + kind, x.make(kind, 4, 60, 60, 60, 60, 61), 2 * kind + 1);
        }
    }

    @Says(in = 0, is = "MISS 0 .. 40")
    private static void missIs0To40() {
        OneHandset x = bits(0, 4);
        Due.yes("MISS 0", x.set(0, 0, 0));
        Due.is("MISS", x.of(0, 2), 0);
        Due.no("MISS -1", x.set(0, 0, -1));
        Due.is("MISS", x.of(0, 2), 0);
        Due.yes("MISS 40", x.set(0, 0, 40));
        Due.is("MISS", x.of(0, 2), 40);
        Due.no("MISS 41", x.set(0, 0, 41));
        Due.no("MISS MAX", x.set(0, 0, MAX));
        Due.no("MISS MIN", x.set(0, 0, MIN));
        Due.is("MISS", x.of(0, 2), 40);
    }

    @Says(in = 0, is = "FLIP 0 .. N - 1, or NONE")
    private static void flipIs0ToTheHighestBit() {
        for (int n : new int[] {1, 2, 8, 23, 24}) {
            OneHandset x = bits(0, n);
            for (int v : new int[] {0, n - 1, -1}) {
                Due.yes("FLIP " + v + " of " + n, x.set(0, 1, v));
                Due.is("FLIP", x.of(0, 3), v);
            }
            Due.yes("FLIP " + (n - 1), x.set(0, 1, n - 1));
            for (int v : new int[] {-2, n, 32, MIN, MAX}) {
                Due.no("FLIP " + v + " of " + n, x.set(0, 1, v));
                Due.is("FLIP", x.of(0, 3), n - 1);
            }
            x.send(0, (1 << n) - 1);
            Due.is("the highest bit is the FLIP", x.learn(0, 0), (1 << n - 1) - 1);
        }
    }

    @Says(in = 0, is = "A TIME t FITS w, if the size of t less w, times 100, is at most MISS times w.")
    private static void fitsAtMostMiss() {
        for (int w : new int[] {1, 2, 3, 5, 49, 50, 51, 56, 99, 100, 101, 900, 9998, 9999}) {
            OneHandset x = one(0, 0, w, 450, 56, 60, 168);
            for (int miss : new int[] {0, 1, 20, 39, 40}) {
                x.set(0, 0, miss);
                int size = 0;
                while ((size + 1) * 100L <= (long) miss * w) {
                    size++;
                }
                reads("the longest that FITS " + w, x, -2 - 1, w + size);
                reads("the shortest that FITS " + w, x, -2 - 1, w - size);
                reads("too long for " + w, x, -2, w + size + 1);
                reads("too short for " + w, x, -2, w - size - 1);
            }
        }
    }

    @Says(in = 0, is = "FITS w, if the size of t less w, times 100")
    private static void fitsNothingByAWrapAround() {
        OneHandset x = one(0, 40, 1000, 450, 56, 60, 168);
        // 42949673 * 100 is 4 beyond 2^32, and 2^31 * 100 is a multiple of it: both look small if they wrap round
        for (int t : new int[] {42949673 + 1000, 1000 - 42949673, MIN + 1000, MAX, MIN, MAX - 1000, -1000, 85899346 + 1000}) {
            reads("far from 1000", x, -2, t);
        }
        reads("1400", x, -2 - 1, 1400);
    }

    @Says(in = 0, is = "Of two that it FITS it is the nearer one, if alike the first named.")
    private static void theNearerOneOfTwo() {
        for (int kind = 0; kind < 2; kind++) {
            int[][] due = {
                // with z 100, o 140; with z 140, o 100
                {59, -1, -1}, {60, 0, 1}, {83, 0, 1}, {84, 0, 1}, {119, 0, 1}, {120, 0, 0}, {121, 1, 0}, {140, 1, 0}, {141, 1, 0},
                {196, 1, 0}, {197, -1, -1},
            };
            for (int[] d : due) {
                bitTold(kind, d[0], 100, 140, d[1]);
                bitTold(kind, d[0], 140, 100, d[2]);
            }
            // it is the nearer one of those that it FITS, not of all: 141 is nearer to 100, but FITS 200 alone
            bitTold(kind, 140, 100, 200, 0);
            bitTold(kind, 141, 100, 200, 1);
            bitTold(kind, 140, 200, 100, 1);
            bitTold(kind, 141, 200, 100, 0);
            bitTold(kind, 101, 100, 102, 0);
            bitTold(kind, 101, 102, 100, 0);
        }
    }

    private static void bitTold(int kind, int t, int z, int o, int bit) {
        OneHandset x = one(kind, 40, 10, 20, 30, z, o);
        int place = kind == 0 ? 3 : 2;
        int due = bit == -1 ? -2 - place : bit;
        if (kind == 0) {
            reads("z " + z + ", o " + o, x, due, 10, 20, 30, t, 30);
        } else {
            reads("z " + z + ", o " + o, x, due, 10, 20, t);
        }
    }

    @Says(in = 0, is = "CODES are 0 .. 2^N - 1")
    private static void codesAreBelow2ToTheN() {
        for (int kind = 0; kind < 3; kind++) {
            for (int n : new int[] {1, 2, 7, 23, 24}) {
                OneHandset x = bits(kind, n);
                int top = (1 << n) - 1;
                Due.yes("send of 0", x.send(0, 0) > 0);
                Due.is("read", x.read(0), 0);
                Due.yes("send of " + top, x.send(0, top) > 0);
                Due.is("read", x.read(0), top);
                for (int code : new int[] {-1, top + 1, MIN, MAX, 1 << 30}) {
                    Due.is("send of " + code, x.send(0, code), -1);
                }
                Due.is("THE TAPE stays", x.read(0), top);
            }
        }
    }

    @Says(in = 0, is = "the highest of N bits is the first")
    private static void theHighestBitIsFirst() {
        OneHandset x = bits(0, 3);
        x.send(0, 4);
        Due.tape("100", x, 900, 450, 56, 168, 56, 60, 56, 60, 56);
        x.send(0, 1);
        Due.tape("001", x, 900, 450, 56, 60, 56, 60, 56, 168, 56);
        OneHandset y = bits(1, 24);
        y.send(0, 1 << 23);
        Due.is("the first bit", y.time(2), 168);
        Due.is("the last bit", y.time(48), 60);
    }

    @Says(in = 0, is = "FAULT at the first TIME that can't be there (its place)")
    private static void faultIsTheFirst() {
        for (int kind = 0; kind < 3; kind++) {
            OneHandset x = bits(kind, 3);
            int size = x.send(0, 7);
            int[] good = new int[size];
            for (int i = 0; i < size; i++) {
                good[i] = x.time(i);
            }
            for (int i = 0; i < size; i++) {
                int[] t = good.clone();
                t[i] = 5000;
                reads("FAULT at " + i, x, -2 - i, t);
                t[size - 1] = 5000;
                reads("the first of two FAULTS", x, -2 - i, t);
                Arrays.fill(t, i, size, 0);
                reads("the first of many FAULTS", x, -2 - i, t);
            }
        }
    }

    @Says(in = 0, is = "or the end, if it ends too early (how many TIMES there are)")
    private static void faultIsTheEnd() {
        for (int kind = 0; kind < 3; kind++) {
            OneHandset x = bits(kind, 24);
            int size = x.send(0, (1 << 24) - 1);
            Due.is("whole", x.read(0), (1 << 24) - 1);
            for (int n = size - 1; n >= 0; n--) {
                x.end(n);
                Due.is("KIND " + kind + ", " + n + " TIMES", x.read(0), -2 - n);
            }
        }
    }

    @Says(in = 0, is = "KINDS 0, 1: one that does not FIT, one too many.")
    private static void faultOfOneTooMany() {
        int[] lengths = {2 * 3 + 3, 2 * 3 + 1};
        for (int kind = 0; kind < 2; kind++) {
            OneHandset x = bits(kind, 3);
            Due.is("send", x.send(0, 5), lengths[kind]);
            Due.is("none too many", x.read(0), 5);
            for (int more : new int[] {56, 60, 168, 0, 1}) {
                x.send(0, 5);
                x.feed(more, 56, 56, 56, 56);
                x.end(lengths[kind] + 1);
                Due.is("one too many", x.read(0), -2 - lengths[kind]);
            }
            x.send(0, 5);
            x.feed(56, 60, 56, 60, 56);
            Due.is("five too many", x.read(0), -2 - lengths[kind]);
            reads("too long by one", x, -2 - 1, 900, 541);
            reads("as long as FITS", x, -2 - 2, 900, 540);
        }
    }

    @Says(in = 0, is = "KIND 2: a TIME that FITS neither p nor twice p")
    private static void faultOfNoHalves() {
        OneHandset x = one(2, 20, 1, 1, 100, 1, 2);
        int[][] due = {{79, -2}, {80, -3}, {120, -3}, {121, -2}, {159, -2}, {160, 0}, {240, 0}, {241, -2}};
        for (int[] d : due) {
            reads("MISS 20", x, d[1], d[0]);
        }
        x.set(0, 0, 40);
        // with MISS 40 both are FIT from 120 to 140: p is nearer; from 141 on twice p alone
        int[][] wide = {{59, -2}, {60, -3}, {119, -3}, {120, -3}, {140, -3}, {141, 0}, {280, 0}, {281, -2}};
        for (int[] d : wide) {
            reads("MISS 40", x, d[1], d[0]);
        }
        x.set(0, 0, 0);
        int[][] narrow = {{99, -2}, {100, -3}, {101, -2}, {199, -2}, {200, 0}, {201, -2}};
        for (int[] d : narrow) {
            reads("MISS 0", x, d[1], d[0]);
        }
    }

    @Says(in = 0, is = "one in which a HALF ends that is like the first HALF of its bit")
    private static void faultOfAHalfLikeTheFirst() {
        OneHandset x = bits(2, 2);
        reads("OFF, OFF of the first bit", x, -2 - 1, 56, 112);
        reads("OFF, ON of the first bit", x, -2 - 3, 56, 56, 56);
        reads("ON, then OFF twice is of two bits", x, 1, 112, 112, 56);
        reads("ON, ON of the second bit", x, -2 - 2, 112, 56, 112);
        reads("OFF, OFF of the second bit", x, -2 - 3, 56, 56, 56, 112);
        reads("OFF, ON of the second bit", x, 3, 56, 56, 56, 56, 56);
    }

    @Says(in = 0, is = "or that is beyond all bits")
    private static void faultOfAHalfBeyondAllBits() {
        OneHandset x = bits(2, 1);
        reads("all bits, 1", x, 1, 56, 56, 56);
        reads("a HALF ON beyond", x, -2 - 2, 56, 56, 112);
        reads("a HALF OFF beyond", x, -2 - 3, 56, 56, 56, 56);
        reads("all bits, 0", x, 0, 112, 56);
        reads("a HALF OFF beyond", x, -2 - 1, 112, 112);
        reads("a HALF ON beyond", x, -2 - 2, 112, 56, 56);
        reads("two beyond", x, -2 - 2, 112, 56, 112);
    }

    @Says(in = 0, is = "(a single OFF HALF that is missing at the end of the last bit is no FAULT)")
    private static void noFaultOfTheLastOff() {
        OneHandset x = bits(2, 2);
        reads("00 without", x, 0, 112, 56, 56);
        reads("00 with", x, 0, 112, 56, 56, 56);
        reads("10 without", x, 2, 56, 56, 112);
        reads("10 with", x, 2, 56, 56, 112, 56);
        reads("an ON HALF that is missing", x, -2 - 2, 112, 112);
        reads("an ON HALF that is missing", x, -2 - 4, 56, 56, 56, 56);
        reads("an OFF HALF of the first bit that is missing", x, -2 - 1, 112);
        reads("two HALVES that are missing", x, -2 - 2, 112, 56);
        reads("two HALVES that are missing", x, -2 - 3, 56, 56, 56);
    }

    // ---- keys

    @Says(in = 0, is = "KEYS 0 .. 15 of each MAKE: LEARNT or not")
    private static void keysAre0To15() {
        OneHandset x = bits(0, 8);
        x.make(0, 8, 900, 450, 56, 60, 168);
        x.send(0, 77);
        for (int key = 0; key < 16; key++) {
            Due.is("not yet LEARNT", x.key(0, key), -1);
            Due.is("learn of KEY " + key, x.learn(0, key), 77);
            Due.is("KEYS", x.of(0, 4), key + 1);
        }
        for (int key : new int[] {-1, 16, MIN, MAX}) {
            Due.is("learn of KEY " + key, x.learn(0, key), -1);
            Due.is("key " + key, x.key(0, key), -1);
        }
        Due.is("KEYS", x.of(0, 4), 16);
        Due.is("KEYS of the other MAKE", x.of(1, 4), 0);
    }

    @Says(in = 0, is = "a CODE (its FLIP bit, if any, 0)")
    private static void theFlipBitOfAKeyIs0() {
        for (int flip : new int[] {0, 3, 7}) {
            OneHandset x = bits(0, 8);
            x.set(0, 1, flip);
            x.send(0, 255);
            Due.is("learn", x.learn(0, 0), 255 - (1 << flip));
            Due.is("key", x.key(0, 0), 255 - (1 << flip));
            x.set(0, 1, -1);
            Due.is("learn without FLIP", x.learn(0, 0), 255);
        }
    }

    @Says(in = 0, is = "bits that are alike in the CODES of all LEARNT KEYS (FLIP is none; without KEYS none are)")
    private static void fixedBits() {
        for (int n : new int[] {1, 8, 24}) {
            OneHandset x = bits(0, n);
            int all = (1 << n) - 1;
            Due.is("without KEYS", x.of(0, 5), 0);
            States.learn(x, 0, 0, 0);
            Due.is("of one KEY", x.of(0, 5), all);
            States.learn(x, 0, 1, 1);
            Due.is("of two KEYS", x.of(0, 5), all - 1);
            States.learn(x, 0, 15, all);
            Due.is("of three KEYS", x.of(0, 5), 0);
            x.forget(0, 15);
            Due.is("of two KEYS", x.of(0, 5), all - 1);
            x.forget(0, 0);
            x.forget(0, 1);
            Due.is("without KEYS", x.of(0, 5), 0);
            x.set(0, 1, n - 1);
            States.learn(x, 0, 0, 0);
            Due.is("FLIP is none", x.of(0, 5), all >> 1);
            x.set(0, 1, 0);
            States.learn(x, 0, 0, all);
            Due.is("FLIP is none", x.of(0, 5), all - 1);
        }
    }

    @Says(in = 0, is = "CHECKS, of N above 4")
    private static void checksAreOfNAbove4() {
        for (int n = 1; n <= 6; n++) {
            OneHandset x = bits(0, n);
            int code = n < 6 ? 0 : 0b000111;
            States.learn(x, 0, 0, code);
            States.learn(x, 0, 1, code);
            Due.is("sums of " + n + " bits", x.check(0, 1), n < 5 ? -1 : code);
            Due.is("odd bits of " + n + " bits", x.check(0, 2), n < 5 ? -1 : code);
            Due.is("contrary bits of " + n + " bits", x.check(0, 3), n == 6 ? 0 : -1);
        }
        for (int n : new int[] {2, 4}) {
            OneHandset x = bits(0, n);
            States.learn(x, 0, 0, (1 << n / 2) - 1);
            States.learn(x, 0, 1, (1 << n / 2) - 1);
            Due.is("contrary bits of " + n + " bits", x.check(0, 3), -1);
        }
    }

    @Says(in = 0, is = "1 the lowest four bits are the sum of all fours above them (from the lowest up, the highest one perhaps fewer bits)")
    private static void sumsOfFours() {
        for (int n = 5; n <= 24; n++) {
            OneHandset x = bits(0, n);
            States.learn(x, 0, 0, 3);
            for (int bit = 4; bit < n; bit++) {
                int due = 3 + (1 << bit % 4) & 15;
                x.forget(0, 1);
                States.learn(x, 0, 1, 1 << bit | due);
                Due.is("N " + n + ", bit " + bit, x.check(0, 1), 3);
                x.forget(0, 1);
                States.learn(x, 0, 1, 1 << bit | due + 1 & 15);
                Due.is("N " + n + ", bit " + bit + ", one more", x.check(0, 1), -1);
            }
        }
    }

    @Says(in = 0, is = "and c, by 16")
    private static void sumsAreBy16() {
        OneHandset x = bits(0, 24);
        States.learn(x, 0, 0, 0xFFFFF0 | 75 % 16);
        States.learn(x, 0, 1, 0x000000);
        Due.is("75 and 0 is 11", x.check(0, 1), 0);
        x.set(0, 1, -1);
        States.learn(x, 0, 0, 0xF00000 | 14);
        States.learn(x, 0, 1, 0x00000F);
        Due.is("15 and 15 is 14", x.check(0, 1), 15);
        x.set(0, 1, -1);
        States.learn(x, 0, 0, 0xF10000);
        States.learn(x, 0, 1, 0x000000);
        Due.is("15 and 1 is 0", x.check(0, 1), 0);
        States.learn(x, 0, 2, 0xF10001);
        Due.is("15 and 1 is not 1", x.check(0, 1), -1);
    }

    @Says(in = 0, is = "2 they are the bits of these fours and c, each bit 1 if an odd number of them are")
    private static void oddBitsOfFours() {
        for (int n = 5; n <= 24; n++) {
            OneHandset x = bits(0, n);
            States.learn(x, 0, 0, 3);
            for (int bit = 4; bit < n; bit++) {
                int due = 3 ^ 1 << bit % 4;
                x.forget(0, 1);
                States.learn(x, 0, 1, 1 << bit | due);
                Due.is("N " + n + ", bit " + bit, x.check(0, 2), 3);
                x.forget(0, 1);
                States.learn(x, 0, 1, 1 << bit | due ^ 8);
                Due.is("N " + n + ", bit " + bit + ", another", x.check(0, 2), -1);
            }
        }
        OneHandset y = bits(0, 24);
        States.learn(y, 0, 0, 0x111110 | 1);
        States.learn(y, 0, 1, 0x111100);
        States.learn(y, 0, 2, 0x111000 | 1);
        States.learn(y, 0, 3, 0x110000);
        Due.is("five, four, three, two ones", y.check(0, 2), 0);
    }

    @Says(in = 0, is = "3 (N even) the lower half has just the contrary bits of the upper half.")
    private static void contraryBitsOfHalves() {
        for (int n = 6; n <= 24; n++) {
            OneHandset x = bits(0, n);
            int half = (1 << n / 2) - 1;
            States.learn(x, 0, 0, half);
            States.learn(x, 0, 1, half << n / 2);
            Due.is("N " + n, x.check(0, 3), n % 2 == 0 ? 0 : -1);
            States.learn(x, 0, 2, half - 1 << n / 2 | 1);
            Due.is("N " + n, x.check(0, 3), n % 2 == 0 ? 0 : -1);
            for (int bit = 0; bit < n; bit++) {
                States.learn(x, 0, 3, half ^ 1 << bit);
                Due.is("N " + n + ", bit " + bit + " is alike", x.check(0, 3), -1);
                x.forget(0, 3);
            }
        }
    }

    @Says(in = 0, is = "(CODES as LEARNT, FLIP 0; of 3 with a FLIP: never.)")
    private static void checksWithAFlip() {
        for (int flip = 0; flip < 6; flip++) {
            OneHandset x = bits(0, 6);
            x.set(0, 1, flip);
            States.learn(x, 0, 0, 0b000111);
            States.learn(x, 0, 1, 0b000111);
            int code = 0b000111 & ~(1 << flip);
            Due.is("contrary bits with FLIP " + flip, x.check(0, 3), -1);
            Due.is("sums with FLIP " + flip, x.check(0, 1), code);
            Due.is("odd bits with FLIP " + flip, x.check(0, 2), code);
            x.set(0, 1, -1);
            States.learn(x, 0, 0, 0b000111);
            States.learn(x, 0, 1, 0b000111);
            Due.is("contrary bits without FLIP", x.check(0, 3), 0);
        }
        OneHandset y = bits(0, 8);
        y.set(0, 1, 7);
        States.learn(y, 0, 0, 0x93);
        States.learn(y, 0, 1, 0x24);
        Due.is("sums, FLIP 0", y.check(0, 1), 2);
        States.learn(y, 0, 2, 0x02);
        Due.is("sums, FLIP 0", y.check(0, 1), 2);
        Due.is("odd bits, FLIP 0", y.check(0, 2), -1);
    }

    @Says(in = 0, is = "A CHECK holds, if it does for all LEARNT KEYS with one c (0 .. 15)")
    private static void checksHoldWithOneC() {
        for (int c = 0; c < 16; c++) {
            OneHandset x = bits(0, 8);
            States.learn(x, 0, 0, c);
            States.learn(x, 0, 15, 0x50 | c + 5 & 15);
            Due.is("sums", x.check(0, 1), c);
            x.forget(0, 15);
            States.learn(x, 0, 15, 0x50 | c ^ 5);
            Due.is("odd bits", x.check(0, 2), c);
            States.learn(x, 0, 7, c + 1 & 15);
            Due.is("sums with another c", x.check(0, 1), -1);
            Due.is("odd bits with another c", x.check(0, 2), -1);
            x.forget(0, 7);
            Due.is("odd bits", x.check(0, 2), c);
        }
    }

    @Says(in = 0, is = "and two or more are LEARNT.")
    private static void checksHoldForTwoOrMore() {
        OneHandset x = bits(0, 8);
        for (int rule = 1; rule <= 3; rule++) {
            Due.is("no KEYS", x.check(0, rule), -1);
        }
        States.learn(x, 0, 4, 0x0F);
        for (int rule = 1; rule <= 3; rule++) {
            Due.is("one KEY", x.check(0, rule), -1);
        }
        x.learn(0, 4);
        Due.is("one KEY that is LEARNT again", x.check(0, 3), -1);
        x.learn(0, 5);
        Due.is("two KEYS", x.check(0, 1), 15);
        Due.is("two KEYS", x.check(0, 2), 15);
        Due.is("two KEYS", x.check(0, 3), 0);
        x.forget(0, 4);
        for (int rule = 1; rule <= 3; rule++) {
            Due.is("one KEY again", x.check(0, rule), -1);
        }
    }

    @Says(in = 0, is = "all CODES (FLIP 0) with FIXED bits as they are LEARNT and for which the CHECKS hold that hold (with their c)")
    private static void foreseenByChecksThatHold() {
        OneHandset x = bits(0, 5);
        States.learn(x, 0, 0, 0b00011);
        Due.is("one KEY: itself alone", x.many(0), 1);
        Due.is("one KEY: itself alone", x.foreseen(0, 0), 0b00011);
        States.learn(x, 0, 1, 0b10100);
        Due.is("sums with c 3", x.check(0, 1), 3);
        Due.is("sums with c 3", x.many(0), 2);
        Due.is("the least", x.foreseen(0, 0), 0b00011);
        Due.is("the most", x.foreseen(0, 1), 0b10100);
        States.learn(x, 0, 2, 0b00100);
        Due.is("no CHECK holds any more", x.many(0), 16);
        Due.is("the least", x.foreseen(0, 0), 0b00000);
        Due.is("the most", x.foreseen(0, 15), 0b10111);
        x.set(0, 1, 2);
        States.learn(x, 0, 0, 0b00011);
        States.learn(x, 0, 1, 0b10100);
        Due.is("FLIP 0", x.many(0), 8);
        Due.is("FLIP 0", x.foreseen(0, 7), 0b10011);
        OneHandset y = bits(0, 6);
        States.learn(y, 0, 0, 0b101010);
        States.learn(y, 0, 1, 0b000111);
        Due.is("sums", y.check(0, 1), -1);
        Due.is("odd bits", y.check(0, 2), -1);
        Due.is("contrary bits alone", y.many(0), 4);
        Due.is("the least", y.foreseen(0, 0), 0b000111);
        Due.is("the most", y.foreseen(0, 3), 0b101010);
        OneHandset z = bits(0, 8);
        States.learn(z, 0, 0, 0x03);
        States.learn(z, 0, 1, 0x65);
        Due.is("sums", z.check(0, 1), -1);
        Due.is("odd bits with c 3 alone", z.check(0, 2), 3);
        Due.is("odd bits with c 3 alone", z.many(0), 4);
        int[] due = {0x03, 0x21, 0x47, 0x65};
        for (int i = 0; i < 4; i++) {
            Due.is("odd bits with c 3 alone", z.foreseen(0, i), due[i]);
        }
    }

    @Says(in = 0, is = "only if at most 14 bits are not FIXED (FLIP apart)")
    private static void foreseenOfAtMost14Bits() {
        OneHandset x = bits(0, 24);
        States.learn(x, 0, 0, 0x100000);
        States.learn(x, 0, 1, 0x103FFF);
        Due.is("14 bits", x.many(0), 1 << 14);
        Due.is("14 bits", x.foreseen(0, 1), 0x100001);
        States.learn(x, 0, 2, 0x104000);
        Due.is("15 bits", x.many(0), -1);
        Due.is("15 bits", x.foreseen(0, 1), -1);
        x.forget(0, 2);
        Due.is("14 bits again", x.many(0), 1 << 14);
        x.set(0, 1, 20);
        States.learn(x, 0, 0, 0x100000);
        States.learn(x, 0, 1, 0x103FFF);
        Due.is("14 bits, FLIP apart", x.many(0), 1 << 14);
        Due.is("14 bits, FLIP apart", x.foreseen(0, 1), 1);
        x.set(0, 1, 5);
        States.learn(x, 0, 0, 0x100000);
        States.learn(x, 0, 1, 0x107FFF);
        Due.is("15 bits, one of them FLIP", x.many(0), 1 << 14);
        OneHandset y = bits(0, 14);
        States.learn(y, 0, 0, 0);
        States.learn(y, 0, 1, 0x3FFF);
        States.learn(y, 0, 2, 1);
        Due.is("all of 14", y.many(0), 1 << 14);
        OneHandset z = bits(0, 15);
        States.learn(z, 0, 0, 0);
        States.learn(z, 0, 1, 0x7FFF);
        States.learn(z, 0, 2, 1);
        Due.is("all of 15", z.many(0), -1);
    }

    // ---- boxes

    @Says(in = 0, is = "BOXES 0 .. 3")
    private static void boxesAre0To3() {
        OneHandset x = new OneHandset();
        for (int b = 0; b < 4; b++) {
            Due.yes("BOX " + b, x.box(b, 2 + b, 1));
        }
        for (int b : new int[] {-1, 4, MIN, MAX}) {
            Due.no("BOX " + b, x.box(b, 1, 1));
            Due.is("BOX " + b, x.told(b, 0), -1);
        }
        for (int b = 0; b < 4; b++) {
            Due.is("STATES of BOX " + b, x.told(b, 0), 2 + b);
        }
    }

    @Says(in = 0, is = "STATES 0 .. k - 1 (k 1 .. 8)")
    private static void statesAre1To8() {
        OneHandset x = new OneHandset();
        for (int k : new int[] {1, 2, 7, 8}) {
            Due.yes("k " + k, x.box(0, k, 1));
            Due.is("STATES", x.told(0, 0), k);
            Due.yes("the last STATE", x.lead(0, k - 1, 0, k - 1));
            Due.no("from beyond", x.lead(0, k, 0, 0));
            Due.no("to beyond", x.lead(0, 0, 0, k));
            Due.no("from ahead", x.lead(0, -1, 0, 0));
            Due.no("to ahead", x.lead(0, 0, 0, -1));
        }
        for (int k : new int[] {0, 9, -1, MIN, MAX}) {
            Due.no("k " + k, x.box(0, k, 1));
            Due.is("STATES stay", x.told(0, 0), 8);
        }
    }

    @Says(in = 0, is = "BUTTONS 0 .. m - 1 (m 1 .. 4)")
    private static void buttonsAre1To4() {
        OneHandset x = new OneHandset();
        for (int m = 1; m <= 4; m++) {
            Due.yes("m " + m, x.box(0, 2, m));
            Due.is("BUTTONS", x.told(0, 1), m);
            Due.yes("the last BUTTON", x.lead(0, 0, m - 1, 1));
            Due.is("the last BUTTON", x.push(0, m - 1), 3);
            Due.no("beyond", x.lead(0, 0, m, 1));
            Due.is("beyond", x.push(0, m), -1);
            Due.no("ahead", x.lead(0, 0, -1, 1));
            Due.is("ahead", x.push(0, -1), -1);
        }
        for (int m : new int[] {0, 5, -1, MIN, MAX}) {
            Due.no("m " + m, x.box(0, 2, m));
            Due.is("BUTTONS stay", x.told(0, 1), 4);
        }
    }

    @Says(in = 0, is = "behind each STATE by each BUTTON a STATE (at first 0)")
    private static void leadsAreAtFirst0() {
        OneHandset x = new OneHandset();
        x.box(3, 8, 4);
        for (int state = 0; state < 8; state++) {
            for (int button = 0; button < 4; button++) {
                x.maybe(3, 1 << state);
                Due.is("behind " + state + " by " + button, x.push(3, button), 1);
            }
        }
    }

    @Says(in = 0, is = "MAYBE: the STATES in which it may be, as bits (at first all)")
    private static void maybeIsAtFirstAll() {
        OneHandset x = new OneHandset();
        Due.is("of a new object", x.told(2, 2), 1);
        for (int k = 1; k <= 8; k++) {
            x.box(2, k, 1);
            Due.is("of " + k + " STATES", x.told(2, 2), (1 << k) - 1);
        }
    }
}
