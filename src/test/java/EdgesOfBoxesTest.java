/** The boundaries of promises 20 to 27; what is refused is looked at with Twins, which see that nothing changes. */
public final class EdgesOfBoxesTest {
    private static final int MIN = Integer.MIN_VALUE;
    private static final int MAX = Integer.MAX_VALUE;
    private static final Twins FRESH = new Twins(States::fresh);
    private static final Twins READY = new Twins(States::ready);
    private static final int[] NO_BOXES = {-1, 4, MIN, MAX};

    public static void main(String[] args) throws ReflectiveOperationException {
        Edges.run(EdgesOfBoxesTest.class);
    }

    private static void row(String call, OneHandset x, int... buttons) {
        Due.is(call + ": BUTTONS", x.count(2), buttons.length);
        for (int i = 0; i < buttons.length; i++) {
            Due.is(call + ": button(" + i + ")", x.button(i), buttons[i]);
        }
        Due.is(call + ": behind the last", x.button(buttons.length), -1);
    }

    /** A ring of STATES: BUTTON 0 goes on by one, BUTTON 1 goes from the last to the first alone. */
    private static void ring(OneHandset x, int box, int k) {
        x.box(box, k, 2);
        for (int state = 0; state < k; state++) {
            x.lead(box, state, 0, (state + 1) % k);
            x.lead(box, state, 1, state == k - 1 ? 0 : state);
        }
    }

    // ---- promise 20

    @Says(in = 20, is = "A BOX has so many STATES and BUTTONS, all lead to 0, MAYBE all: true.")
    private static void boxStartsAnew() {
        for (int b = 0; b < 4; b++) {
            OneHandset x = new OneHandset();
            for (int k : new int[] {1, 8}) {
                for (int m : new int[] {1, 4}) {
                    Due.yes("box(" + b + ", " + k + ", " + m + ")", x.box(b, k, m));
                    Due.is("STATES", x.told(b, 0), k);
                    Due.is("BUTTONS", x.told(b, 1), m);
                    Due.is("MAYBE", x.told(b, 2), (1 << k) - 1);
                    Due.yes("lead", x.lead(b, k - 1, m - 1, k - 1));
                    x.maybe(b, 1 << k - 1);
                    Due.is("push", x.push(b, m - 1), 1 << k - 1);
                    Due.yes("box again", x.box(b, k, m));
                    Due.is("MAYBE all", x.told(b, 2), (1 << k) - 1);
                    for (int button = 0; button < m; button++) {
                        x.maybe(b, (1 << k) - 1);
                        Due.is("all lead to 0", x.push(b, button), 1);
                    }
                }
            }
            Due.is("the others stay", x.told((b + 1) % 4, 0), 1);
        }
    }

    @Says(in = 20, is = "all lead to 0")
    private static void boxForgetsLeadsOfAWiderBox() {
        OneHandset x = new OneHandset();
        x.box(0, 8, 4);
        for (int state = 0; state < 8; state++) {
            for (int button = 0; button < 4; button++) {
                x.lead(0, state, button, 7);
            }
        }
        x.box(0, 1, 1);
        Due.is("of one STATE", x.push(0, 0), 1);
        x.box(0, 8, 4);
        for (int state = 0; state < 8; state++) {
            for (int button = 0; button < 4; button++) {
                x.maybe(0, 1 << state);
                Due.is("behind " + state + " by " + button, x.push(0, button), 1);
            }
        }
    }

    @Says(in = 20, is = "Refused: others.")
    private static void boxOfNone() {
        for (int b : NO_BOXES) {
            READY.no("BOX " + b, x -> x.box(b, 1, 1));
            FRESH.no("BOX " + b, x -> x.box(b, 2, 2));
        }
        for (int k : new int[] {0, 9, -1, MIN, MAX}) {
            READY.no(k + " STATES", x -> x.box(0, k, 1));
        }
        for (int m : new int[] {0, 5, -1, MIN, MAX}) {
            READY.no(m + " BUTTONS", x -> x.box(0, 1, m));
        }
        READY.no("both too many", x -> x.box(1, 9, 5));
    }

    // ---- promise 21

    @Says(in = 21, is = "A STATE leads by a BUTTON to a STATE: true.")
    private static void leadOfTheFirstAndLast() {
        OneHandset x = new OneHandset();
        for (int b : new int[] {0, 3}) {
            x.box(b, 8, 4);
            int[][] leads = {{0, 0, 7}, {7, 3, 7}, {7, 0, 0}, {0, 3, 0}};
            for (int[] l : leads) {
                Due.yes("lead", x.lead(b, l[0], l[1], l[2]));
            }
            for (int[] l : leads) {
                x.maybe(b, 1 << l[0]);
                Due.is("behind " + l[0] + " by " + l[1], x.push(b, l[1]), 1 << l[2]);
            }
            Due.yes("lead anew", x.lead(b, 7, 3, 6));
            x.maybe(b, 128);
            Due.is("behind 7 by 3", x.push(b, 3), 64);
            x.maybe(b, 128);
            Due.is("behind 7 by 2", x.push(b, 2), 1);
        }
    }

    @Says(in = 21, is = "Refused: none such.")
    private static void leadOfNone() {
        for (int b : NO_BOXES) {
            READY.no("BOX " + b, x -> x.lead(b, 0, 0, 0));
        }
        for (int v : new int[] {3, -1, 8, MIN, MAX}) {
            READY.no("from STATE " + v, x -> x.lead(0, v, 0, 0));
            READY.no("to STATE " + v, x -> x.lead(0, 0, 0, v));
        }
        for (int v : new int[] {2, -1, 4, MIN, MAX}) {
            READY.no("by BUTTON " + v, x -> x.lead(0, 0, v, 0));
        }
        for (int v : new int[] {8, -1}) {
            READY.no("from STATE " + v + " of 8", x -> x.lead(1, v, 0, 0));
            READY.no("to STATE " + v + " of 8", x -> x.lead(1, 0, 0, v));
        }
        READY.no("by BUTTON 4 of 4", x -> x.lead(1, 0, 4, 0));
        FRESH.no("from STATE 1 of 1", x -> x.lead(0, 1, 0, 0));
        FRESH.no("to STATE 1 of 1", x -> x.lead(0, 0, 0, 1));
        FRESH.no("by BUTTON 1 of 1", x -> x.lead(0, 0, 1, 0));
        OneHandset x = States.inReady();
        Due.yes("the last of each", x.lead(0, 2, 1, 2));
        x.maybe(0, 4);
        Due.is("the last of each", x.push(0, 1), 4);
    }

    // ---- promise 22

    @Says(in = 22, is = "MAYBE becomes a set of its STATES (not empty): true.")
    private static void maybeBecomes() {
        for (int k = 1; k <= 8; k++) {
            OneHandset x = new OneHandset();
            x.box(3, k, 1);
            for (int set : new int[] {1, 1 << k - 1, (1 << k) - 1}) {
                Due.yes("maybe", x.maybe(3, set));
                Due.is("MAYBE", x.told(3, 2), set);
            }
            for (int set : new int[] {0, 1 << k, (1 << k) + 1, -1, MIN, MAX}) {
                Due.no("maybe of " + set, x.maybe(3, set));
                Due.is("MAYBE stays", x.told(3, 2), (1 << k) - 1);
            }
        }
    }

    @Says(in = 22, is = "Refused: others.")
    private static void maybeOfNone() {
        for (int b : NO_BOXES) {
            READY.no("BOX " + b, x -> x.maybe(b, 1));
        }
        for (int set : new int[] {0, 8, 9, 255, 256, -1, MIN, MAX}) {
            READY.no("set " + set + " of 3", x -> x.maybe(0, set));
        }
        for (int set : new int[] {0, 256, 257, -1, MIN, MAX}) {
            READY.no("set " + set + " of 8", x -> x.maybe(1, set));
        }
        FRESH.no("set 2 of 1", x -> x.maybe(0, 2));
        FRESH.no("set 0 of 1", x -> x.maybe(0, 0));
    }

    // ---- promise 23

    @Says(in = 23, is = "A BUTTON is pressed: MAYBE then.")
    private static void pushOfTheFirstAndLast() {
        OneHandset x = new OneHandset();
        x.box(3, 8, 4);
        for (int state = 0; state < 8; state++) {
            x.lead(3, state, 0, state);
            x.lead(3, state, 3, state / 2);
        }
        Due.is("all stay", x.push(3, 0), 255);
        Due.is("halved", x.push(3, 3), 15);
        Due.is("told", x.told(3, 2), 15);
        Due.is("halved", x.push(3, 3), 3);
        Due.is("halved", x.push(3, 3), 1);
        Due.is("one stays", x.push(3, 3), 1);
        x.maybe(3, 128);
        Due.is("the last stays", x.push(3, 0), 128);
        Due.is("the others stay", x.told(2, 2), 1);
    }

    @Says(in = 23, is = "Refused: none such.")
    private static void pushOfNone() {
        for (int b : NO_BOXES) {
            READY.none("BOX " + b, x -> x.push(b, 0));
        }
        for (int button : new int[] {2, -1, 4, MIN, MAX}) {
            READY.none("BUTTON " + button + " of 2", x -> x.push(0, button));
        }
        for (int button : new int[] {4, -1, MIN, MAX}) {
            READY.none("BUTTON " + button + " of 4", x -> x.push(1, button));
        }
        FRESH.none("BUTTON 1 of 1", x -> x.push(0, 1));
        Due.is("the last of 2", States.inReady().push(0, 1), 3);
        Due.is("the last of 4", States.inReady().push(1, 3), 255);
    }

    // ---- promise 24

    @Says(in = 24, is = "The shortest row of BUTTONS by which it is in one of a set of STATES, whatever of MAYBE it is in now")
    private static void wayIsTheShortest() {
        OneHandset x = new OneHandset();
        for (int k = 2; k <= 8; k++) {
            ring(x, 0, k);
            Due.is("of " + k + " STATES", x.way(0, 1), (k - 1) * (k - 1));
            Due.is("of all STATES", x.way(0, (1 << k) - 1), 0);
            Due.is("of all but the last", x.way(0, (1 << k - 1) - 1), 1);
        }
        x.maybe(0, 128);
        Due.is("it is there", x.way(0, 128), 0);
        Due.is("it is there", x.way(0, 192), 0);
        Due.is("one on", x.way(0, 1), 1);
        x.maybe(0, 1);
        Due.is("seven on", x.way(0, 128), 7);
        x.maybe(0, 3);
        // seven on they are in 7 and 0, which BUTTON 1 makes one
        Due.is("both, not one of them", x.way(0, 1), 8);
        Due.is("of one STATE and BUTTON", x.way(1, 1), 0);
    }

    @Says(in = 24, is = "(of equal ones the one with the less BUTTON first)")
    private static void wayOfTheLessButtonFirst() {
        OneHandset x = new OneHandset();
        x.box(0, 2, 4);
        x.maybe(0, 1);
        for (int button = 3; button >= 0; button--) {
            x.lead(0, 0, button, 1);
            Due.is("way", x.way(0, 2), 1);
            row("of one BUTTON", x, button);
        }
        x.box(1, 4, 4);
        x.maybe(1, 1);
        // two presses through STATE 1 or 2: the first BUTTON is compared first, then the second
        x.lead(1, 0, 1, 1);
        x.lead(1, 0, 2, 2);
        x.lead(1, 2, 0, 3);
        x.lead(1, 1, 3, 3);
        Due.is("way", x.way(1, 8), 2);
        row("the less first", x, 1, 3);
        x.lead(1, 1, 2, 3);
        Due.is("way", x.way(1, 8), 2);
        row("then the less second", x, 1, 2);
        x.lead(1, 0, 3, 3);
        Due.is("way", x.way(1, 8), 1);
        row("the shorter ahead of the less", x, 3);
    }

    @Says(in = 24, is = "-2: there is none")
    private static void wayThatIsNone() {
        READY.keeps("0 leads to 1, 1 to 0: never in one alone", x -> x.way(2, 1), -2);
        READY.keeps("0 leads to 1, 1 to 0: never in one alone", x -> x.way(2, 2), -2);
        OneHandset x = new OneHandset();
        x.box(0, 2, 1);
        Due.is("all lead to 0", x.way(0, 1), 1);
        Due.is("none to 1", x.way(0, 2), -2);
        x.lead(0, 1, 0, 1);
        Due.is("none to 1 from 0", x.way(0, 2), -2);
        x.lead(0, 0, 0, 1);
        Due.is("all lead to 1", x.way(0, 2), 1);
        x.box(1, 8, 4);
        Due.is("none to 7", x.way(1, 128), -2);
        Due.is("none but to 0", x.way(1, 254), -2);
        Due.is("to 0", x.way(1, 129), 1);
    }

    @Says(in = 24, is = "NONE: no such BOX, set (empty, or beyond its STATES).")
    private static void wayOfNone() {
        for (int b : NO_BOXES) {
            READY.none("BOX " + b, x -> x.way(b, 1));
        }
        for (int set : new int[] {0, 8, 9, 255, 256, -1, MIN, MAX}) {
            READY.none("set " + set + " of 3", x -> x.way(0, set));
        }
        for (int set : new int[] {0, 256, 257, -1, MIN, MAX}) {
            READY.none("set " + set + " of 8", x -> x.way(1, set));
        }
        FRESH.none("set 2 of 1", x -> x.way(0, 2));
        FRESH.none("set 0 of 1", x -> x.way(0, 0));
        Due.is("all of 3", States.inReady().way(0, 7), 0);
        Due.is("all of 8", States.inReady().way(1, 255), 0);
        Due.is("all of 1", States.inReady().way(3, 1), 0);
    }

    @Says(in = 24, is = "(MAYBE stays.)")
    private static void wayLeavesMaybe() {
        OneHandset x = new OneHandset();
        ring(x, 0, 4);
        Due.is("way", x.way(0, 1), 9);
        Due.is("MAYBE", x.told(0, 2), 15);
        x.maybe(0, 6);
        Due.yes("way", x.way(0, 8) > 0);
        Due.is("MAYBE", x.told(0, 2), 6);
    }

    // ---- promise 25

    @Says(in = 25, is = "BUTTON i of the latest way() that told one")
    private static void buttonOfTheLatestWay() {
        OneHandset x = new OneHandset();
        ring(x, 0, 8);
        Due.is("way", x.way(0, 1), 49);
        Due.is("the first", x.button(0), 1);
        Due.is("the second", x.button(1), 0);
        Due.is("the last", x.button(48), 1);
        Due.is("beyond", x.button(49), -1);
        x.box(1, 2, 1);
        Due.is("a way that told none", x.way(1, 2), -2);
        Due.is("the last stays", x.button(48), 1);
        Due.is("a way that is refused", x.way(1, 4), -1);
        Due.is("the last stays", x.button(48), 1);
        Due.is("a shorter one", x.way(1, 1), 1);
        row("a shorter one", x, 0);
        x.box(1, 8, 4);
        row("the BOX anew", x, 0);
        Due.is("one of no BUTTONS", x.way(1, 255), 0);
        row("one of no BUTTONS", x);
    }

    @Says(in = 25, is = "NONE for none such.")
    private static void buttonOfNone() {
        for (int i : new int[] {0, -1, 1, MIN, MAX}) {
            FRESH.none("button(" + i + ") of none", x -> x.button(i));
        }
        for (int i : new int[] {3, -1, 255, 256, MIN, MAX}) {
            READY.none("button(" + i + ") of 3", x -> x.button(i));
        }
        READY.keeps("button(0)", x -> x.button(0), 1);
        READY.keeps("button(2)", x -> x.button(2), 0);
    }

    // ---- promise 26

    @Says(in = 26, is = "Of a BOX, what 0: STATES, 1: BUTTONS, 2: MAYBE. NONE: none such, another what.")
    private static void toldOfNone() {
        for (int b : NO_BOXES) {
            for (int what = 0; what < 3; what++) {
                int w = what;
                READY.none("BOX " + b, x -> x.told(b, w));
            }
        }
        for (int what : new int[] {3, -1, MIN, MAX}) {
            READY.none("what " + what, x -> x.told(0, what));
        }
        READY.keeps("STATES", x -> x.told(0, 0), 3);
        READY.keeps("BUTTONS", x -> x.told(0, 1), 2);
        READY.keeps("MAYBE", x -> x.told(0, 2), 5);
        READY.keeps("MAYBE of BOX 3", x -> x.told(3, 2), 1);
        READY.keeps("MAYBE of BOX 1", x -> x.told(1, 2), 255);
    }

    // ---- promise 27

    @Says(in = 27, is = "What 0: MAKES, 1: TIMES on THE TAPE, 2: BUTTONS of the latest way().")
    private static void countAtItsEnds() {
        for (int what = 0; what < 3; what++) {
            int w = what;
            FRESH.keeps("count(" + what + ") of none", x -> x.count(w), 0);
        }
        READY.keeps("MAKES", x -> x.count(0), 5);
        READY.keeps("TIMES", x -> x.count(1), 9);
        READY.keeps("BUTTONS", x -> x.count(2), 3);
        OneHandset x = new OneHandset();
        States.full(x);
        ring(x, 0, 8);
        x.way(0, 1);
        Due.is("MAKES", x.count(0), 8);
        Due.is("TIMES", x.count(1), 120);
        Due.is("BUTTONS", x.count(2), 49);
        x.way(0, 255);
        Due.is("BUTTONS of a row of none", x.count(2), 0);
    }

    @Says(in = 27, is = "NONE for another what.")
    private static void countOfNone() {
        for (int what : new int[] {3, -1, MIN, MAX}) {
            FRESH.none("what " + what, x -> x.count(what));
            READY.none("what " + what, x -> x.count(what));
        }
    }
}
