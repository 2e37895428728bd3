import java.util.Arrays;
import java.util.NoSuchElementException;

/**
 * One handset for all: flashes of light made and read by makes of three kinds, keys learnt and codes
 * foreseen from them, and boxes whose state can't be seen brought right by the shortest row of presses.
 * The words in capitals are those of the document's Terms.
 */
public final class OneHandset {
    public static final int NONE = -1;

    private static final int NO_ANSWER = -2;
    private static final int TAPE_MOST = 120;
    private static final int FED_AT_ONCE = 5;
    private static final int TIME_MOST = 20000;
    private static final int STRETCH_MOST = 60;
    private static final int MAKES_MOST = 8;
    private static final int KINDS = 3;
    private static final int WIDTH = 1;
    private static final int HALVES = 2;
    private static final int BITS_MOST = 24;
    private static final int NUMBER_MOST = 9999;
    private static final int MISS_AT_FIRST = 20;
    private static final int MISS_MOST = 40;
    private static final int KEYS_MOST = 16;
    private static final int RULES = 3;
    private static final int CONTRARY = 3;
    private static final int FREE_MOST = 14;
    private static final int BOXES = 4;
    private static final int STATES_MOST = 8;
    private static final int BUTTONS_MOST = 4;
    private static final int SETS = 1 << STATES_MOST;

    private final Tape tape;
    private final Make[] makes;
    private int makeCount;
    private final Box[] boxes;
    private final Route route;

    public OneHandset() {
        tape = new Tape();
        makes = new Make[MAKES_MOST];
        makeCount = 0;
        boxes = new Box[BOXES];
        for (int i = 0; i < BOXES; i++) {
            boxes[i] = new Box();
        }
        route = new Route();
    }

    // ---- makes, flashes

    public int make(int kind, int n, int a, int b, int p, int z, int o) {
        if (makeCount >= MAKES_MOST || !within(kind, 0, KINDS - 1) || !within(n, 1, BITS_MOST)) {
            return NONE;
        }
        if (!isNumber(a) || !isNumber(b) || !isNumber(p) || !isNumber(z) || !isNumber(o) || z == o) {
            return NONE;
        }
        Form form = kind == HALVES ? new HalvesForm(n, p) : new PairsForm(kind == WIDTH, n, a, b, p, z, o);
        makes[makeCount] = new Make(kind, n, form);
        makeCount++;
        return makeCount - 1;
    }

    public boolean set(int make, int what, int v) {
        Make m = makeAt(make);
        if (m == null) {
            return false;
        }
        if (what == 0 && within(v, 0, MISS_MOST)) {
            m.miss = v;
            return true;
        }
        if (what == 1 && within(v, NONE, m.bits - 1)) {
            m.keys.startWithFlip(v);
            return true;
        }
        return false;
    }

    public int feed(int a, int b, int c, int d, int e) {
        if (tape.size > TAPE_MOST - FED_AT_ONCE) {
            return NONE;
        }
        tape.append(a);
        tape.append(b);
        tape.append(c);
        tape.append(d);
        tape.append(e);
        return tape.size;
    }

    public boolean end(int n) {
        if (!within(n, 0, tape.size)) {
            return false;
        }
        tape.size = n;
        return true;
    }

    public int send(int make, int code) {
        Make m = makeAt(make);
        if (m == null || !within(code, 0, lowBits(m.bits))) {
            return NONE;
        }
        return m.flash(code, tape);
    }

    public int time(int i) throws NoSuchElementException {
        if (!within(i, 0, tape.size - 1)) {
            throw new NoSuchElementException();
        }
        return tape.at(i);
    }

    public int read(int make) {
        Make m = makeAt(make);
        return m == null ? NONE : m.decode(tape);
    }

    public int which() {
        int found = 0;
        for (int i = 0; i < makeCount; i++) {
            if (read(i) >= 0) {
                found |= 1 << i;
            }
        }
        return found;
    }

    public boolean stretch(int by) {
        if (!within(by, -STRETCH_MOST, STRETCH_MOST)) {
            return false;
        }
        tape.stretchAll(by);
        return true;
    }

    // ---- keys

    public int learn(int make, int key) {
        Make m = makeAt(make);
        if (m == null) {
            return NONE;
        }
        int code = m.decode(tape);
        return code < 0 ? NONE : m.keys.take(key, code);
    }

    public boolean forget(int make, int key) {
        Make m = makeAt(make);
        return m != null && m.keys.drop(key);
    }

    public int key(int make, int key) {
        Make m = makeAt(make);
        return m == null ? NONE : m.keys.codeOf(key);
    }

    public int press(int make, int key) {
        Make m = makeAt(make);
        if (m == null || m.keys.codeOf(key) == NONE) {
            return NONE;
        }
        return m.flash(m.keys.codeToSend(key), tape);
    }

    public int of(int make, int what) {
        Make m = makeAt(make);
        if (m == null) {
            return NONE;
        }
        switch (what) {
            case 0: return m.kind;
            case 1: return m.bits;
            case 2: return m.miss;
            case 3: return m.keys.flip;
            case 4: return m.keys.learnt;
            case 5: return m.keys.fixed;
            case 6: return m.keys.flipBit;
            default: return NONE;
        }
    }

    public int check(int make, int rule) {
        Make m = makeAt(make);
        return m == null ? NONE : m.keys.constantThatHolds(rule);
    }

    public int many(int make) {
        Make m = makeAt(make);
        return m == null || !m.keys.canForesee() ? NONE : m.keys.foreseenCount();
    }

    public int foreseen(int make, int i) {
        Make m = makeAt(make);
        return m == null || !m.keys.canForesee() ? NONE : m.keys.foreseenAt(i);
    }

    public int both(int a, int b) {
        Make first = makeAt(a);
        Make second = makeAt(b);
        if (first == null || second == null || first.bits != second.bits) {
            return NONE;
        }
        if (!first.keys.canForesee() || !second.keys.canForesee()) {
            return NONE;
        }
        return first.keys.leastForeseenWith(second.keys);
    }

    // ---- boxes

    public boolean box(int box, int k, int m) {
        Box x = boxAt(box);
        if (x == null || !within(k, 1, STATES_MOST) || !within(m, 1, BUTTONS_MOST)) {
            return false;
        }
        x.startAnew(k, m);
        return true;
    }

    public boolean lead(int box, int state, int button, int to) {
        Box x = boxAt(box);
        if (x == null || !x.hasState(state) || !x.hasButton(button) || !x.hasState(to)) {
            return false;
        }
        x.setLead(state, button, to);
        return true;
    }

    public boolean maybe(int box, int set) {
        Box x = boxAt(box);
        if (x == null || !x.hasSet(set)) {
            return false;
        }
        x.maybe = set;
        return true;
    }

    public int push(int box, int button) {
        Box x = boxAt(box);
        if (x == null || !x.hasButton(button)) {
            return NONE;
        }
        x.maybe = x.behind(x.maybe, button);
        return x.maybe;
    }

    public int way(int box, int set) {
        Box x = boxAt(box);
        return x == null || !x.hasSet(set) ? NONE : route.find(x, set);
    }

    public int button(int i) {
        return route.buttonAt(i);
    }

    public int told(int box, int what) {
        Box x = boxAt(box);
        if (x == null) {
            return NONE;
        }
        switch (what) {
            case 0: return x.states;
            case 1: return x.buttons;
            case 2: return x.maybe;
            default: return NONE;
        }
    }

    public int count(int what) {
        switch (what) {
            case 0: return makeCount;
            case 1: return tape.size;
            case 2: return route.length;
            default: return NONE;
        }
    }

    // ---- helpers

    private Make makeAt(int make) {
        return within(make, 0, makeCount - 1) ? makes[make] : null;
    }

    private Box boxAt(int box) {
        return within(box, 0, BOXES - 1) ? boxes[box] : null;
    }

    private static boolean within(int v, int least, int most) {
        return v >= least && v <= most;
    }

    private static boolean isNumber(int v) {
        return within(v, 1, NUMBER_MOST);
    }

    private static boolean isTime(int t) {
        return within(t, 1, TIME_MOST);
    }

    private static int lowBits(int n) {
        return (1 << n) - 1;
    }

    private static int fault(int place) {
        return -2 - place;
    }

    private static boolean fits(int t, int w, int miss) {
        // what was fed may be any int: isTime keeps the product below from wrapping round
        return isTime(t) && Math.abs(t - w) * 100 <= miss * w;
    }

    /** 0 if t is the first of two, 1 if it is the second, NONE if it FITS neither. */
    private static int nearerOf(int t, int first, int second, int miss) {
        boolean fitsFirst = fits(t, first, miss);
        boolean fitsSecond = fits(t, second, miss);
        if (fitsFirst && fitsSecond) {
            return Math.abs(t - second) < Math.abs(t - first) ? 1 : 0;
        }
        if (fitsFirst) {
            return 0;
        }
        return fitsSecond ? 1 : NONE;
    }

    /** THE TAPE. It holds what was fed, TIMES or not. */
    private static final class Tape {
        private final int[] times = new int[TAPE_MOST];
        private int size = 0;

        void append(int t) {
            if (size < TAPE_MOST) {
                times[size] = t;
                size++;
            }
        }

        void lengthenLast(int by) {
            if (size > 0) {
                times[size - 1] += by;
            }
        }

        /** 0, which is no TIME, where there is none. */
        int at(int i) {
            return within(i, 0, size - 1) ? times[i] : 0;
        }

        void stretchAll(int by) {
            for (int i = 0; i < size; i++) {
                if (isTime(times[i])) {
                    int t = times[i] * (100 + by) / 100;
                    times[i] = Math.max(1, Math.min(TIME_MOST, t));
                }
            }
        }
    }

    /** How the bits of a CODE stand as TIMES on a tape. */
    private abstract static class Form {
        /** Puts the Flashes of a CODE behind what is on the tape. */
        abstract void write(int code, Tape tape);

        /** The CODE, or the fault(..) of the FAULT's place. */
        abstract int decode(Tape tape, int miss);
    }

    /** KINDS 0 and 1: a head, then pairs of which one TIME tells the bit: the OFF one, or (WIDTH) the ON one. */
    private static final class PairsForm extends Form {
        private final boolean onTellsBit;
        private final int bits;
        private final int a;
        private final int b;
        private final int p;
        private final int z;
        private final int o;
        private final int length;

        PairsForm(boolean onTellsBit, int bits, int a, int b, int p, int z, int o) {
            this.onTellsBit = onTellsBit;
            this.bits = bits;
            this.a = a;
            this.b = b;
            this.p = p;
            this.z = z;
            this.o = o;
            this.length = onTellsBit ? 2 * bits + 1 : 2 * bits + 3;
        }

        private boolean tellsBit(int place) {
            return place >= 2 && (place % 2 == 0) == onTellsBit;
        }

        /** The TIME at a place that tells no bit. */
        private int plainTime(int place) {
            if (place == 0) {
                return a;
            }
            return place == 1 ? b : p;
        }

        void write(int code, Tape tape) {
            int left = bits;
            for (int place = 0; place < length; place++) {
                if (tellsBit(place)) {
                    left--;
                    tape.append((code >> left & 1) == 0 ? z : o);
                } else {
                    tape.append(plainTime(place));
                }
            }
        }

        int decode(Tape tape, int miss) {
            int code = 0;
            for (int place = 0; place < tape.size; place++) {
                if (place >= length) {
                    return fault(place);
                }
                int t = tape.at(place);
                if (tellsBit(place)) {
                    int bit = nearerOf(t, z, o, miss);
                    if (bit == NONE) {
                        return fault(place);
                    }
                    code = code * 2 + bit;
                } else if (!fits(t, plainTime(place), miss)) {
                    return fault(place);
                }
            }
            return tape.size < length ? fault(tape.size) : code;
        }
    }

    /** KIND 2. HALVES are numbered from 0, the one ahead of all bits: odd ones are the first of their bit. */
    private static final class HalvesForm extends Form {
        private final int bits;
        private final int p;

        HalvesForm(int bits, int p) {
            this.bits = bits;
            this.p = p;
        }

        private boolean isOn(int code, int half) {
            if (half == 0) {
                return true;
            }
            int bit = code >> (bits - (half + 1) / 2) & 1;
            return (half % 2 == 1) == (bit == 0);
        }

        void write(int code, Tape tape) {
            int last = isOn(code, 2 * bits) ? 2 * bits : 2 * bits - 1;
            tape.append(p);
            for (int half = 1; half <= last; half++) {
                if (isOn(code, half) == isOn(code, half - 1)) {
                    tape.lengthenLast(p);
                } else {
                    tape.append(p);
                }
            }
        }

        int decode(Tape tape, int miss) {
            int code = 0;
            int half = 0;
            boolean firstIsOn = false;
            for (int place = 0; place < tape.size; place++) {
                int longer = nearerOf(tape.at(place), p, 2 * p, miss);
                if (longer == NONE) {
                    return fault(place);
                }
                boolean on = place % 2 == 0;
                for (int i = 0; i <= longer; i++) {
                    boolean endsBit = half > 0 && half % 2 == 0;
                    if (half > 2 * bits || endsBit && on == firstIsOn) {
                        return fault(place);
                    }
                    if (endsBit) {
                        code = code * 2 + (firstIsOn ? 0 : 1);
                    }
                    firstIsOn = on;
                    half++;
                }
            }
            if (half == 2 * bits && firstIsOn) {
                return code * 2;
            }
            return half > 2 * bits ? code : fault(tape.size);
        }
    }

    /** A MAKE. */
    private static final class Make {
        private final int kind;
        private final int bits;
        private final Form form;
        private final Keys keys;
        private int miss = MISS_AT_FIRST;

        Make(int kind, int bits, Form form) {
            this.kind = kind;
            this.bits = bits;
            this.form = form;
            this.keys = new Keys(bits);
        }

        /** The tape becomes the Flashes of a CODE: how many TIMES. */
        int flash(int code, Tape tape) {
            tape.size = 0;
            form.write(code, tape);
            return tape.size;
        }

        int decode(Tape tape) {
            return form.decode(tape, miss);
        }
    }

    /** The KEYS of a MAKE, its FLIP, and what all LEARNT KEYS tell together, kept up with each change. */
    private static final class Keys {
        private final int bits;
        private final int[] codes = new int[KEYS_MOST];
        private final int[] constants = new int[RULES + 1];
        private int flip;
        private int flipBit;
        private int learnt;
        private int fixed;
        private int fixedOn;

        Keys(int bits) {
            this.bits = bits;
            startWithFlip(NONE);
        }

        private void startWithFlip(int v) {
            flip = v;
            flipBit = 0;
            Arrays.fill(codes, NONE);
            compareAll();
        }

        private int flipMask() {
            return flip == NONE ? 0 : 1 << flip;
        }

        private boolean hasKey(int key) {
            return within(key, 0, KEYS_MOST - 1);
        }

        int codeOf(int key) {
            return hasKey(key) ? codes[key] : NONE;
        }

        int take(int key, int heard) {
            int code = heard & ~flipMask();
            if (!hasKey(key) || codes[key] != NONE && codes[key] != code) {
                return NONE;
            }
            codes[key] = code;
            compareAll();
            return code;
        }

        boolean drop(int key) {
            if (codeOf(key) == NONE) {
                return false;
            }
            codes[key] = NONE;
            compareAll();
            return true;
        }

        /** The CODE of a LEARNT KEY as it is sent now; the FLIP bit is the other one then. */
        int codeToSend(int key) {
            int code = flipBit == 0 ? codeOf(key) : codeOf(key) | flipMask();
            if (flip != NONE) {
                flipBit = 1 - flipBit;
            }
            return code;
        }

        private void compareAll() {
            learnt = 0;
            int alwaysOn = lowBits(bits);
            int everOn = 0;
            for (int i = 0; i < KEYS_MOST; i++) {
                if (codes[i] != NONE) {
                    learnt++;
                    alwaysOn &= codes[i];
                    everOn |= codes[i];
                }
            }
            fixed = learnt == 0 ? 0 : lowBits(bits) & ~(everOn & ~alwaysOn) & ~flipMask();
            fixedOn = alwaysOn & fixed;
            for (int rule = 1; rule <= RULES; rule++) {
                constants[rule] = isCheck(rule) && learnt >= 2 ? commonConstant(rule) : NONE;
            }
        }

        private boolean isCheck(int rule) {
            return bits > 4 && (rule != CONTRARY || bits % 2 == 0 && flip == NONE);
        }

        /** c by which a CHECK is true of every LEARNT KEY; NONE if there is no such one. */
        private int commonConstant(int rule) {
            int common = NONE;
            boolean any = false;
            for (int i = 0; i < KEYS_MOST; i++) {
                if (codes[i] != NONE) {
                    int c = constantFor(rule, codes[i]);
                    if (any && c != common) {
                        return NONE;
                    }
                    common = c;
                    any = true;
                }
            }
            return common;
        }

        /** c by which a CHECK is true of a CODE (0 for the rule without c); NONE if it is not. */
        private int constantFor(int rule, int code) {
            // the lowest four bits of a shifted CODE are one four: what is above them does not reach down
            switch (rule) {
                case 1: return code - (code >> 4) - (code >> 8) - (code >> 12) - (code >> 16) - (code >> 20) & 15;
                case 2: return (code ^ code >> 4 ^ code >> 8 ^ code >> 12 ^ code >> 16 ^ code >> 20) & 15;
                default: return isContrary(code) ? 0 : NONE;
            }
        }

        private boolean isContrary(int code) {
            int half = lowBits(bits / 2);
            return ((code ^ code >> bits / 2) & half) == half;
        }

        int constantThatHolds(int rule) {
            return within(rule, 1, RULES) ? constants[rule] : NONE;
        }

        /** The bits that a FORESEEN CODE may have either way. */
        private int free() {
            return lowBits(bits) & ~fixed & ~flipMask();
        }

        boolean canForesee() {
            return learnt > 0 && Integer.bitCount(free()) <= FREE_MOST;
        }

        private boolean checksHoldFor(int code) {
            for (int rule = 1; rule <= RULES; rule++) {
                if (constants[rule] != NONE && constantFor(rule, code) != constants[rule]) {
                    return false;
                }
            }
            return true;
        }

        private boolean foresees(int code) {
            return (code & ~free()) == fixedOn && checksHoldFor(code);
        }

        /** The FORESEEN CODE next above one, or the least one above NONE; NONE if there is none. */
        private int foreseenAbove(int code) {
            int free = free();
            int most = 1 << Integer.bitCount(free);
            // NONE has all free bits, whose next choice is the empty one
            int choice = code & free;
            for (int i = 0; i < most; i++) {
                choice = choice - free & free;
                if (choice == 0 && code != NONE) {
                    return NONE;
                }
                if (checksHoldFor(fixedOn | choice)) {
                    return fixedOn | choice;
                }
            }
            return NONE;
        }

        int foreseenCount() {
            int found = 0;
            int code = foreseenAbove(NONE);
            while (code != NONE && found < 1 << FREE_MOST) {
                found++;
                code = foreseenAbove(code);
            }
            return found;
        }

        int foreseenAt(int i) {
            if (!within(i, 0, (1 << FREE_MOST) - 1)) {
                return NONE;
            }
            int code = foreseenAbove(NONE);
            for (int k = 0; k < i && code != NONE; k++) {
                code = foreseenAbove(code);
            }
            return code;
        }

        int leastForeseenWith(Keys other) {
            int code = foreseenAbove(NONE);
            for (int k = 0; k < 1 << FREE_MOST && code != NONE; k++) {
                if (other.foresees(code)) {
                    return code;
                }
                code = foreseenAbove(code);
            }
            return NO_ANSWER;
        }
    }

    /** A BOX. Sets of STATES are held as bits. */
    private static final class Box {
        private final int[] leads = new int[STATES_MOST * BUTTONS_MOST];
        private int states;
        private int buttons;
        private int maybe;

        Box() {
            startAnew(1, 1);
        }

        private void startAnew(int k, int m) {
            states = k;
            buttons = m;
            maybe = lowBits(k);
            Arrays.fill(leads, 0);
        }

        boolean hasState(int state) {
            return within(state, 0, states - 1);
        }

        boolean hasButton(int button) {
            return within(button, 0, buttons - 1);
        }

        boolean hasSet(int set) {
            return within(set, 1, lowBits(states));
        }

        void setLead(int state, int button, int to) {
            if (hasState(state) && hasButton(button)) {
                leads[state * BUTTONS_MOST + button] = to;
            }
        }

        /** Where it may be behind a set of STATES by a BUTTON. */
        int behind(int set, int button) {
            int reached = 0;
            for (int state = 0; state < states && hasButton(button); state++) {
                if ((set >> state & 1) == 1) {
                    reached |= 1 << leads[state * BUTTONS_MOST + button];
                }
            }
            return reached;
        }
    }

    /** The row of BUTTONS of the latest way() that told one, and the rows used to look for the next. */
    private static final class Route {
        private final int[] row = new int[SETS];
        private final int[] queue = new int[SETS];
        private final int[] before = new int[SETS];
        private final int[] by = new int[SETS];
        private int length = 0;

        /**
         * Sets of STATES are looked at in the order of their rows, shorter ones and lesser BUTTONS first,
         * so the first one inside the goal has the row that is due.
         */
        int find(Box box, int goal) {
            Arrays.fill(before, NONE);
            int start = box.maybe;
            queue[0] = start;
            before[start] = start;
            int tail = 1;
            for (int head = 0; head < tail && head < SETS; head++) {
                int set = queue[head];
                if ((set & ~goal) == 0) {
                    return keepRow(start, set);
                }
                for (int button = 0; button < box.buttons; button++) {
                    int next = box.behind(set, button);
                    if (before[next] == NONE && tail < SETS) {
                        before[next] = set;
                        by[next] = button;
                        queue[tail] = next;
                        tail++;
                    }
                }
            }
            return NO_ANSWER;
        }

        private int keepRow(int start, int last) {
            length = 0;
            for (int set = last; set != start && length < SETS; set = before[set]) {
                length++;
            }
            int set = last;
            for (int i = length - 1; i >= 0; i--) {
                row[i] = by[set];
                set = before[set];
            }
            return length;
        }

        int buttonAt(int i) {
            return within(i, 0, length - 1) ? row[i] : NONE;
        }
    }
}
