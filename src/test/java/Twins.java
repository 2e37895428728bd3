import java.util.ArrayList;
import java.util.List;
import java.util.function.BiConsumer;
import java.util.function.Consumer;
import java.util.function.Predicate;
import java.util.function.ToIntFunction;

/**
 * Objects brought to the same state, of which one gets a call more: both are then asked for all that can be seen of
 * them, the leads of BOXES, the FLIP bits and the numbers of MAKES too. Some questions change what they ask, and an
 * object is good for 512 calls, so each part of the picture is taken of an object of its own.
 */
final class Twins {
    private final Consumer<OneHandset> setUp;
    private final List<Integer> before;

    Twins(Consumer<OneHandset> setUp) {
        this.setUp = setUp;
        this.before = picture(x -> { });
    }

    /** A call that is due to answer NONE and to change nothing. */
    void none(String call, ToIntFunction<OneHandset> made) {
        keeps(call, made, OneHandset.NONE);
    }

    /** A call that is due to answer false and to change nothing. */
    void no(String call, Predicate<OneHandset> made) {
        keeps(call, x -> made.test(x) ? 1 : 0, 0);
    }

    /** A call whose answer is told, and that is due to change nothing. */
    void keeps(String call, ToIntFunction<OneHandset> made, int answer) {
        OneHandset x = new OneHandset();
        setUp.accept(x);
        Due.is(call, made.applyAsInt(x), answer);
        unchanged(call, made::applyAsInt);
    }

    void unchanged(String call, Consumer<OneHandset> made) {
        Due.yes(call + " changes nothing", picture(made).equals(before));
    }

    /** So that a test of what changes nothing can't pass by seeing nothing. */
    void changes(String call, Consumer<OneHandset> made) {
        Due.no(call + " changes nothing", picture(made).equals(before));
    }

    private List<Integer> picture(Consumer<OneHandset> made) {
        List<Integer> all = new ArrayList<>();
        look(made, all, Twins::tape);
        look(made, all, Twins::makes);
        look(made, all, Twins::pairsOfMakes);
        look(made, all, Twins::presses);
        look(made, all, Twins::boxes);
        for (int make = 0; make < 8; make++) {
            int m = make;
            look(made, all, (x, seen) -> flashes(x, m, seen));
        }
        return all;
    }

    private void look(Consumer<OneHandset> made, List<Integer> seen, BiConsumer<OneHandset, List<Integer>> at) {
        OneHandset x = new OneHandset();
        setUp.accept(x);
        made.accept(x);
        at.accept(x, seen);
    }

    private static void times(OneHandset x, List<Integer> seen) {
        int size = x.count(1);
        seen.add(size);
        for (int i = 0; i < size; i++) {
            seen.add(x.time(i));
        }
    }

    private static void tape(OneHandset x, List<Integer> seen) {
        times(x, seen);
        seen.add(x.count(0));
        seen.add(x.count(2));
        for (int i = 0; i < 64; i++) {
            seen.add(x.button(i));
        }
        seen.add(x.which());
    }

    private static void makes(OneHandset x, List<Integer> seen) {
        for (int m = 0; m < 8; m++) {
            for (int what = 0; what < 7; what++) {
                seen.add(x.of(m, what));
            }
            for (int rule = 1; rule < 4; rule++) {
                seen.add(x.check(m, rule));
            }
            for (int k = 0; k < 16; k++) {
                seen.add(x.key(m, k));
            }
            int many = x.many(m);
            seen.add(many);
            seen.add(x.foreseen(m, 0));
            seen.add(x.foreseen(m, many - 1));
        }
    }

    private static void pairsOfMakes(OneHandset x, List<Integer> seen) {
        for (int a = 0; a < 8; a++) {
            seen.add(x.read(a));
            for (int b = 0; b < 8; b++) {
                seen.add(x.both(a, b));
            }
        }
    }

    private static void presses(OneHandset x, List<Integer> seen) {
        for (int m = 0; m < 8; m++) {
            for (int k = 0; k < 16; k++) {
                if (x.press(m, k) != OneHandset.NONE) {
                    seen.add(x.read(m));
                }
            }
        }
    }

    private static void boxes(OneHandset x, List<Integer> seen) {
        for (int b = 0; b < 4; b++) {
            int states = x.told(b, 0);
            int buttons = x.told(b, 1);
            seen.add(states);
            seen.add(buttons);
            seen.add(x.told(b, 2));
            for (int state = 0; state < states; state++) {
                for (int button = 0; button < buttons; button++) {
                    x.maybe(b, 1 << state);
                    seen.add(x.push(b, button));
                }
            }
        }
    }

    private static void flashes(OneHandset x, int make, List<Integer> seen) {
        int bits = x.of(make, 1);
        if (bits != OneHandset.NONE) {
            seen.add(x.send(make, 0x2AAAAA & (1 << bits) - 1));
            times(x, seen);
        }
    }
}
