import java.lang.reflect.InvocationTargetException;
import java.lang.reflect.Method;
import java.lang.reflect.Modifier;
import java.util.Arrays;
import java.util.Comparator;
import java.util.NoSuchElementException;
import java.util.Random;
import java.util.Set;
import java.util.function.Consumer;

/**
 * Every call of the face with numbers at the document's boundaries, in three states: nothing but what the document
 * names is thrown, a call that is refused changes nothing, and one that only tells something never does.
 */
public final class RefusedCallsTest {
    private static final int[] EDGES = {
        Integer.MIN_VALUE, -61, -60, -2, -1, 0, 1, 2, 3, 4, 5, 7, 8, 9, 15, 16, 24, 25, 40, 41, 60, 61, 120, 121, 255, 256,
        9999, 10000, 20000, 20001, Integer.MAX_VALUE,
    };
    private static final Set<String> TELL_ONLY = Set.of(
        "time", "read", "which", "key", "of", "check", "many", "foreseen", "both", "button", "told", "count");
    private static final int THROWN = Integer.MIN_VALUE;
    private static final int MOST = 1000;

    public static void main(String[] args) throws ReflectiveOperationException {
        Edges.run(RefusedCallsTest.class);
    }

    @Says(in = 0, is = "Refused calls answer NONE, or false, and change nothing.")
    private static void ofANewObject() {
        sweep(States::fresh, 1);
    }

    @Says(in = 0, is = "Refused calls answer NONE, or false, and change nothing.")
    private static void ofOneInUse() {
        sweep(States::ready, 2);
    }

    @Says(in = 0, is = "Refused calls answer NONE, or false, and change nothing.")
    private static void ofOneThatIsFull() {
        sweep(States::full, 3);
    }

    @Says(in = 0, is = "Refused calls answer NONE, or false, and change nothing.")
    private static void whatIsNotRefusedIsSeen() {
        Twins ready = new Twins(States::ready);
        ready.changes("make", x -> x.make(0, 1, 1, 1, 1, 1, 2));
        ready.changes("set of MISS", x -> x.set(2, 0, 21));
        ready.changes("set of FLIP", x -> x.set(2, 1, 0));
        ready.changes("feed", x -> x.feed(1, 1, 1, 1, 1));
        ready.changes("end", x -> x.end(8));
        ready.changes("send", x -> x.send(0, 7));
        ready.changes("stretch", x -> x.stretch(1));
        ready.changes("learn", x -> x.learn(0, 1));
        ready.changes("forget", x -> x.forget(0, 15));
        ready.changes("press", x -> x.press(1, 3));
        ready.changes("box", x -> x.box(3, 1, 2));
        ready.changes("lead", x -> x.lead(1, 7, 3, 7));
        ready.changes("maybe", x -> x.maybe(0, 4));
        ready.changes("push", x -> x.push(0, 1));
        ready.changes("way", x -> x.way(0, 1));
    }

    private static void sweep(Consumer<OneHandset> state, int seed) {
        Twins twins = new Twins(state);
        Method[] face = OneHandset.class.getDeclaredMethods();
        Arrays.sort(face, Comparator.comparing(Method::getName));
        for (Method m : face) {
            if (Modifier.isPublic(m.getModifiers())) {
                sweep(twins, state, m, new Random(seed));
            }
        }
    }

    private static void sweep(Twins twins, Consumer<OneHandset> state, Method m, Random random) {
        int params = m.getParameterCount();
        int all = 1;
        for (int i = 0; i < params && all < MOST; i++) {
            all *= EDGES.length;
        }
        int refused = 0;
        for (int i = 0; i < Math.min(all, MOST); i++) {
            Object[] args = all < MOST ? nth(i, params) : any(params, random);
            OneHandset x = new OneHandset();
            state.accept(x);
            int answer = answer(x, m, args);
            boolean isRefused = answer == OneHandset.NONE || answer == THROWN
                || answer == 0 && m.getReturnType() == boolean.class;
            if (isRefused || TELL_ONLY.contains(m.getName())) {
                refused++;
                twins.unchanged(m.getName() + Arrays.toString(args), y -> answer(y, m, args));
            }
        }
        Due.yes(m.getName() + " with none refused", refused > 0 || params == 5);
    }

    private static Object[] nth(int i, int params) {
        Object[] args = new Object[params];
        for (int k = 0; k < params; k++) {
            args[k] = EDGES[i % EDGES.length];
            i /= EDGES.length;
        }
        return args;
    }

    private static Object[] any(int params, Random random) {
        Object[] args = new Object[params];
        int odd = random.nextInt(params);
        for (int k = 0; k < params; k++) {
            // small numbers are allowed nearly everywhere, so that often one argument alone is wrong
            args[k] = k == odd ? EDGES[random.nextInt(EDGES.length)] : random.nextInt(4);
        }
        return args;
    }

    /** The answer, a boolean as 1 or 0; all but the document's one exception is passed on. */
    private static int answer(OneHandset x, Method m, Object[] args) {
        try {
            Object got = m.invoke(x, args);
            return got instanceof Boolean b ? b ? 1 : 0 : (Integer) got;
        } catch (InvocationTargetException e) {
            Due.yes(m.getName() + Arrays.toString(args) + " throws " + e.getCause(),
                m.getName().equals("time") && e.getCause() instanceof NoSuchElementException);
            return THROWN;
        } catch (IllegalAccessException e) {
            throw new IllegalStateException(e);
        }
    }
}
