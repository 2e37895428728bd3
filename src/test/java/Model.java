import java.util.ArrayList;
import java.util.Arrays;
import java.util.List;
import java.util.NoSuchElementException;
import java.util.TreeMap;
import java.util.TreeSet;

/**
 * A second handset, written from the document in the slowest and most literal way, to compare with.
 * It tries all CODES where the class reckons, so it is for MAKES of few bits.
 */
final class Model {
    private static final int NONE = -1;

    private static final class Make {
        int kind;
        int n;
        int a;
        int b;
        int p;
        int z;
        int o;
        int miss = 20;
        int flip = NONE;
        int bit = 0;
        final TreeMap<Integer, Integer> keys = new TreeMap<>();
    }

    private static final class Box {
        int k = 1;
        int m = 1;
        int maybe = 1;
        int[][] to = new int[1][1];
    }

    private final List<Make> makes = new ArrayList<>();
    private final Box[] boxes = {new Box(), new Box(), new Box(), new Box()};
    private List<Integer> tape = new ArrayList<>();
    private List<Integer> row = new ArrayList<>();

    private Make makeOf(int make) {
        return make >= 0 && make < makes.size() ? makes.get(make) : null;
    }

    private Box boxOf(int box) {
        return box >= 0 && box < 4 ? boxes[box] : null;
    }

    int make(int kind, int n, int a, int b, int p, int z, int o) {
        for (int v : new int[] {a, b, p, z, o}) {
            if (v < 1 || v > 9999) {
                return NONE;
            }
        }
        if (kind < 0 || kind > 2 || n < 1 || n > 24 || z == o || makes.size() == 8) {
            return NONE;
        }
        Make m = new Make();
        m.kind = kind;
        m.n = n;
        m.a = a;
        m.b = b;
        m.p = p;
        m.z = z;
        m.o = o;
        makes.add(m);
        return makes.size() - 1;
    }

    boolean set(int make, int what, int v) {
        Make m = makeOf(make);
        if (m == null || what < 0 || what > 1) {
            return false;
        }
        if (what == 0) {
            if (v < 0 || v > 40) {
                return false;
            }
            m.miss = v;
            return true;
        }
        if (v < -1 || v >= m.n) {
            return false;
        }
        m.flip = v;
        m.bit = 0;
        m.keys.clear();
        return true;
    }

    int feed(int a, int b, int c, int d, int e) {
        if (tape.size() + 5 > 120) {
            return NONE;
        }
        tape.addAll(Arrays.asList(a, b, c, d, e));
        return tape.size();
    }

    boolean end(int n) {
        if (n < 0 || n > tape.size()) {
            return false;
        }
        tape = new ArrayList<>(tape.subList(0, n));
        return true;
    }

    /** The bits of a CODE as a text of 0 and 1, the highest first. */
    private static String text(int code, int n) {
        StringBuilder s = new StringBuilder(Integer.toBinaryString(code));
        while (s.length() < n) {
            s.insert(0, '0');
        }
        return s.toString();
    }

    private static List<Integer> flashes(Make m, int code) {
        List<Integer> out = new ArrayList<>();
        String bits = text(code, m.n);
        if (m.kind == 2) {
            String halves = "+" + bits.replace("0", "A").replace("1", "-+").replace("A", "+-");
            if (halves.endsWith("-")) {
                halves = halves.substring(0, halves.length() - 1);
            }
            for (String same : halves.split("(?<=\\+)(?=-)|(?<=-)(?=\\+)")) {
                out.add(same.length() * m.p);
            }
            return out;
        }
        out.add(m.a);
        out.add(m.b);
        for (char bit : bits.toCharArray()) {
            int w = bit == '0' ? m.z : m.o;
            out.add(m.kind == 0 ? m.p : w);
            out.add(m.kind == 0 ? w : m.p);
        }
        if (m.kind == 0) {
            out.add(m.p);
        } else {
            out.remove(out.size() - 1);
        }
        return out;
    }

    int send(int make, int code) {
        Make m = makeOf(make);
        if (m == null || code < 0 || code >= 1 << m.n) {
            return NONE;
        }
        tape = flashes(m, code);
        return tape.size();
    }

    int time(int i) {
        if (i < 0 || i >= tape.size()) {
            throw new NoSuchElementException();
        }
        return tape.get(i);
    }

    private static boolean fits(Make m, long t, long w) {
        return t >= 1 && t <= 20000 && Math.abs(t - w) * 100 <= m.miss * w;
    }

    /** What a TIME of THE TAPE is by a MAKE, of those that may be named at its place; 0 if none. */
    private int named(Make m, int place, int... ws) {
        int best = 0;
        for (int w : ws) {
            int t = tape.get(place);
            if (fits(m, t, w) && (best == 0 || Math.abs(t - w) < Math.abs(t - best))) {
                best = w;
            }
        }
        return best;
    }

    private int namedAt(Make m, int place) {
        if (m.kind == 2) {
            return named(m, place, m.p, 2 * m.p);
        }
        if (place < 2) {
            return named(m, place, place == 0 ? m.a : m.b);
        }
        boolean bit = place % 2 == (m.kind == 0 ? 1 : 0);
        return bit ? named(m, place, m.z, m.o) : named(m, place, m.p);
    }

    /** How many TIMES at the start are alike in both. */
    private static int alike(List<Integer> x, List<Integer> y) {
        int i = 0;
        while (i < x.size() && i < y.size() && x.get(i).equals(y.get(i))) {
            i++;
        }
        return i;
    }

    int read(int make) {
        Make m = makeOf(make);
        if (m == null) {
            return NONE;
        }
        List<Integer> heard = new ArrayList<>();
        for (int i = 0; i < tape.size(); i++) {
            heard.add(namedAt(m, i));
        }
        int fault = 0;
        for (int code = 0; code < 1 << m.n; code++) {
            List<Integer> due = flashes(m, code);
            if (heard.equals(due)) {
                return code;
            }
            fault = Math.max(fault, alike(heard, due));
            if (m.kind == 2 && code % 2 == 0) {
                due.add(m.p);
                if (heard.equals(due)) {
                    return code;
                }
                fault = Math.max(fault, alike(heard, due));
            }
        }
        return -2 - fault;
    }

    int which() {
        int bits = 0;
        for (int i = 0; i < makes.size(); i++) {
            bits += read(i) >= 0 ? 1 << i : 0;
        }
        return bits;
    }

    boolean stretch(int by) {
        if (by < -60 || by > 60) {
            return false;
        }
        List<Integer> out = new ArrayList<>();
        for (int t : tape) {
            boolean isTime = t >= 1 && t <= 20000;
            long hundredths = 100L * t + (long) by * t;
            out.add(isTime ? (int) Math.min(20000, Math.max(1, hundredths / 100)) : t);
        }
        tape = out;
        return true;
    }

    private static int flipOff(Make m, int code) {
        return m.flip == NONE || (code >> m.flip) % 2 == 0 ? code : code - (1 << m.flip);
    }

    int learn(int make, int key) {
        Make m = makeOf(make);
        if (m == null || key < 0 || key > 15 || read(make) < 0) {
            return NONE;
        }
        int code = flipOff(m, read(make));
        if (m.keys.getOrDefault(key, code) != code) {
            return NONE;
        }
        m.keys.put(key, code);
        return code;
    }

    /** What send() and learn() of a CODE come to, for MAKES of too many bits to read here. */
    void teach(int make, int key, int code) {
        Make m = makes.get(make);
        m.keys.putIfAbsent(key, flipOff(m, code));
    }

    boolean forget(int make, int key) {
        Make m = makeOf(make);
        return m != null && m.keys.remove(key) != null;
    }

    int key(int make, int key) {
        Make m = makeOf(make);
        return m == null ? NONE : m.keys.getOrDefault(key, NONE);
    }

    int press(int make, int key) {
        Make m = makeOf(make);
        if (m == null || !m.keys.containsKey(key)) {
            return NONE;
        }
        int code = m.keys.get(key);
        if (m.flip != NONE) {
            code += m.bit << m.flip;
            m.bit = 1 - m.bit;
        }
        return send(make, code);
    }

    private static int fixed(Make m) {
        int out = 0;
        for (int bit = 0; bit < m.n; bit++) {
            TreeSet<Integer> seen = new TreeSet<>();
            for (int code : m.keys.values()) {
                seen.add(code >> bit & 1);
            }
            if (seen.size() == 1 && bit != m.flip) {
                out += 1 << bit;
            }
        }
        return out;
    }

    int of(int make, int what) {
        Make m = makeOf(make);
        if (m == null || what < 0 || what > 6) {
            return NONE;
        }
        return new int[] {m.kind, m.n, m.miss, m.flip, m.keys.size(), fixed(m), m.bit}[what];
    }

    /** Whether a rule is true of a CODE with c. */
    private static boolean isTrue(Make m, int rule, int code, int c) {
        String s = text(code, m.n);
        if (rule == 3) {
            String contrary = s.substring(0, m.n / 2).replace('0', 'x').replace('1', '0').replace('x', '1');
            return c == 0 && s.substring(m.n / 2).equals(contrary);
        }
        int sum = c;
        int odd = c;
        for (int end = m.n - 4; end > 0; end -= 4) {
            int four = Integer.parseInt(s.substring(Math.max(0, end - 4), end), 2);
            sum += four;
            odd ^= four;
        }
        return Integer.parseInt(s.substring(m.n - 4), 2) == (rule == 1 ? sum % 16 : odd);
    }

    int check(int make, int rule) {
        Make m = makeOf(make);
        if (m == null || rule < 1 || rule > 3 || m.n <= 4 || m.keys.size() < 2) {
            return NONE;
        }
        if (rule == 3 && (m.n % 2 == 1 || m.flip != NONE)) {
            return NONE;
        }
        for (int c = 0; c < 16; c++) {
            boolean all = true;
            for (int code : m.keys.values()) {
                all &= isTrue(m, rule, code, c);
            }
            if (all) {
                return c;
            }
        }
        return NONE;
    }

    /** All FORESEEN CODES, ascending; null where many() is NONE. */
    private List<Integer> all(int make) {
        Make m = makeOf(make);
        if (m == null || m.keys.isEmpty()) {
            return null;
        }
        int fixed = fixed(m);
        if (m.n - (m.flip == NONE ? 0 : 1) - Integer.bitCount(fixed) > 14) {
            return null;
        }
        int[] c = {NONE, check(make, 1), check(make, 2), check(make, 3)};
        int like = m.keys.firstEntry().getValue();
        List<Integer> out = new ArrayList<>();
        for (int code = 0; code < 1 << m.n; code++) {
            boolean foreseen = code == flipOff(m, code) && ((code ^ like) & fixed) == 0;
            for (int rule = 1; rule <= 3 && foreseen; rule++) {
                foreseen = c[rule] == NONE || isTrue(m, rule, code, c[rule]);
            }
            if (foreseen) {
                out.add(code);
            }
        }
        return out;
    }

    int many(int make) {
        List<Integer> all = all(make);
        return all == null ? NONE : all.size();
    }

    int foreseen(int make, int i) {
        List<Integer> all = all(make);
        return all == null || i < 0 || i >= all.size() ? NONE : all.get(i);
    }

    int both(int a, int b) {
        List<Integer> ofA = all(a);
        List<Integer> ofB = all(b);
        if (ofA == null || ofB == null || makeOf(a).n != makeOf(b).n) {
            return NONE;
        }
        TreeSet<Integer> common = new TreeSet<>(ofA);
        common.retainAll(new TreeSet<>(ofB));
        return common.isEmpty() ? -2 : common.first();
    }

    boolean box(int box, int k, int m) {
        Box x = boxOf(box);
        if (x == null || k < 1 || k > 8 || m < 1 || m > 4) {
            return false;
        }
        x.k = k;
        x.m = m;
        x.maybe = (1 << k) - 1;
        x.to = new int[k][m];
        return true;
    }

    boolean lead(int box, int state, int button, int to) {
        Box x = boxOf(box);
        if (x == null || state < 0 || state >= x.k || button < 0 || button >= x.m || to < 0 || to >= x.k) {
            return false;
        }
        x.to[state][button] = to;
        return true;
    }

    private static boolean isSet(Box x, int set) {
        return x != null && set > 0 && set < 1 << x.k;
    }

    boolean maybe(int box, int set) {
        Box x = boxOf(box);
        if (!isSet(x, set)) {
            return false;
        }
        x.maybe = set;
        return true;
    }

    private static int image(Box x, int set, int button) {
        int out = 0;
        for (int state = 0; state < x.k; state++) {
            if (set / (1 << state) % 2 == 1) {
                out |= 1 << x.to[state][button];
            }
        }
        return out;
    }

    int push(int box, int button) {
        Box x = boxOf(box);
        if (x == null || button < 0 || button >= x.m) {
            return NONE;
        }
        x.maybe = image(x, x.maybe, button);
        return x.maybe;
    }

    /** How far each set of STATES is from the goal, found from the goal backwards; 999 if it is never reached. */
    private static int[] far(Box x, int goal) {
        int[] far = new int[1 << x.k];
        for (int set = 1; set < far.length; set++) {
            far[set] = (set & goal) == set ? 0 : 999;
        }
        for (boolean changed = true; changed;) {
            changed = false;
            for (int set = 1; set < far.length; set++) {
                for (int button = 0; button < x.m; button++) {
                    int through = far[image(x, set, button)] + 1;
                    if (through < far[set]) {
                        far[set] = through;
                        changed = true;
                    }
                }
            }
        }
        return far;
    }

    int way(int box, int set) {
        Box x = boxOf(box);
        if (!isSet(x, set)) {
            return NONE;
        }
        int[] far = far(x, set);
        int at = x.maybe;
        if (far[at] >= 999) {
            return -2;
        }
        row = new ArrayList<>();
        while (far[at] > 0) {
            int button = 0;
            while (far[image(x, at, button)] != far[at] - 1) {
                button++;
            }
            row.add(button);
            at = image(x, at, button);
        }
        return row.size();
    }

    int button(int i) {
        return i < 0 || i >= row.size() ? NONE : row.get(i);
    }

    int told(int box, int what) {
        Box x = boxOf(box);
        return x == null || what < 0 || what > 2 ? NONE : new int[] {x.k, x.m, x.maybe}[what];
    }

    int count(int what) {
        return what < 0 || what > 2 ? NONE : new int[] {makes.size(), tape.size(), row.size()}[what];
    }
}
