/** Promises 20 to 27: boxes. */
public final class BoxesTest {
    private static final int MIN = Integer.MIN_VALUE;
    private static final int MAX = Integer.MAX_VALUE;

    public static void main(String[] args) {
        boxStartsAnew();
        boxIsRefused();
        leadLeads();
        maybeTakesASet();
        pushMovesMaybe();
        wayIsShortest();
        wayTakesTheLessButton();
        wayIsRefused();
        wayOfManyPresses();
        buttonOfTheLatestThatToldOne();
        toldTells();
        countCounts();
        Due.finish("BoxesTest");
    }

    private static void boxStartsAnew() {
        OneHandset x = new OneHandset();
        Due.yes("20: box", x.box(0, 8, 4));
        Due.is("20: STATES", x.told(0, 0), 8);
        Due.is("20: BUTTONS", x.told(0, 1), 4);
        Due.is("20: MAYBE", x.told(0, 2), 255);
        for (int button = 0; button < 4; button++) {
            x.box(0, 8, 4);
            Due.is("20: all lead to 0", x.push(0, button), 1);
        }
        Due.yes("20: box", x.box(3, 1, 1));
        x.box(0, 2, 2);
        x.lead(0, 0, 1, 1);
        x.lead(0, 1, 1, 1);
        x.push(0, 1);
        Due.is("20: MAYBE", x.told(0, 2), 2);
        Due.yes("20: box again", x.box(0, 2, 2));
        Due.is("20: MAYBE all", x.told(0, 2), 3);
        Due.is("20: all lead to 0", x.push(0, 1), 1);
        Due.is("20: others stay", x.told(1, 0), 1);
    }

    private static void boxIsRefused() {
        OneHandset x = new OneHandset();
        x.box(0, 3, 2);
        x.lead(0, 0, 0, 2);
        x.maybe(0, 5);
        int[][] bad = {
            {-1, 1, 1}, {4, 1, 1}, {MIN, 1, 1}, {MAX, 1, 1}, {0, 0, 1}, {0, 9, 1}, {0, MIN, 1}, {0, MAX, 1},
            {0, 1, 0}, {0, 1, 5}, {0, 1, MIN}, {0, 1, MAX}, {0, -1, 1}, {0, 1, -1},
        };
        for (int[] b : bad) {
            Due.no("20: box refused", x.box(b[0], b[1], b[2]));
        }
        Due.is("20: STATES stay", x.told(0, 0), 3);
        Due.is("20: BUTTONS stay", x.told(0, 1), 2);
        Due.is("20: MAYBE stays", x.told(0, 2), 5);
        Due.is("20: leads stay", x.push(0, 0), 5);
    }

    private static void leadLeads() {
        OneHandset x = new OneHandset();
        x.box(1, 4, 3);
        Due.yes("21: lead", x.lead(1, 0, 0, 3));
        Due.yes("21: lead", x.lead(1, 3, 2, 1));
        Due.yes("21: lead", x.lead(1, 3, 2, 2));
        Due.yes("21: lead to itself", x.lead(1, 1, 1, 1));
        int[][] bad = {
            {-1, 0, 0, 0}, {4, 0, 0, 0}, {1, -1, 0, 0}, {1, 4, 0, 0}, {1, 0, -1, 0}, {1, 0, 3, 0}, {1, 0, 0, -1}, {1, 0, 0, 4},
            {MAX, 0, 0, 0}, {1, MAX, 0, 0}, {1, 0, MAX, 0}, {1, 0, 0, MAX}, {MIN, 0, 0, 0}, {1, MIN, 0, 0}, {1, 0, MIN, 0},
            {1, 0, 0, MIN}, {0, 1, 0, 0}, {0, 0, 1, 0}, {0, 0, 0, 1},
        };
        for (int[] b : bad) {
            Due.no("21: lead refused", x.lead(b[0], b[1], b[2], b[3]));
        }
        int[][] due = {{8, 1, 1}, {1, 2, 1}, {1, 1, 1}, {1, 1, 4}};
        for (int state = 0; state < 4; state++) {
            for (int button = 0; button < 3; button++) {
                x.maybe(1, 1 << state);
                Due.is("21: behind " + state + " by " + button, x.push(1, button), due[state][button]);
            }
        }
        x.maybe(1, 8);
        x.lead(1, 3, 0, 1);
        Due.is("21: MAYBE stays", x.told(1, 2), 8);
    }

    private static void maybeTakesASet() {
        OneHandset x = new OneHandset();
        x.box(2, 3, 1);
        for (int set = 1; set < 8; set++) {
            Due.yes("22: maybe", x.maybe(2, set));
            Due.is("22: MAYBE", x.told(2, 2), set);
        }
        for (int set : new int[] {0, 8, 9, -1, MIN, MAX}) {
            Due.no("22: no set of its STATES", x.maybe(2, set));
        }
        for (int box : new int[] {-1, 4, MIN, MAX}) {
            Due.no("22: no BOX", x.maybe(box, 1));
        }
        Due.is("22: MAYBE stays", x.told(2, 2), 7);
        x.box(2, 8, 1);
        Due.yes("22: all of 8", x.maybe(2, 255));
        Due.no("22: beyond 8", x.maybe(2, 256));
    }

    private static void pushMovesMaybe() {
        OneHandset x = new OneHandset();
        x.box(0, 4, 2);
        for (int state = 0; state < 4; state++) {
            x.lead(0, state, 0, (state + 1) % 4);
            x.lead(0, state, 1, state == 3 ? 2 : state);
        }
        Due.is("23: push", x.push(0, 0), 15);
        Due.is("23: push", x.push(0, 1), 7);
        Due.is("23: push", x.push(0, 0), 14);
        Due.is("23: push", x.push(0, 1), 6);
        Due.is("23: push", x.push(0, 0), 12);
        Due.is("23: push", x.push(0, 1), 4);
        Due.is("23: MAYBE", x.told(0, 2), 4);
        for (int button : new int[] {-1, 2, 4, MIN, MAX}) {
            Due.is("23: no BUTTON", x.push(0, button), -1);
        }
        for (int box : new int[] {-1, 4, MIN, MAX}) {
            Due.is("23: no BOX", x.push(box, 0), -1);
        }
        Due.is("23: MAYBE stays", x.told(0, 2), 4);
    }

    private static void row(String call, OneHandset x, int... buttons) {
        Due.is(call + ": count(2)", x.count(2), buttons.length);
        for (int i = 0; i < buttons.length; i++) {
            Due.is(call + ": button(" + i + ")", x.button(i), buttons[i]);
        }
        Due.is(call + ": behind the last", x.button(buttons.length), -1);
    }

    private static void wayIsShortest() {
        OneHandset x = new OneHandset();
        x.box(0, 4, 2);
        for (int state = 0; state < 4; state++) {
            x.lead(0, state, 0, (state + 1) % 4);
            x.lead(0, state, 1, state == 3 ? 0 : state);
        }
        // the synchronizing row of four states: 9 presses
        Due.is("24: way", x.way(0, 1), 9);
        row("24", x, 1, 0, 0, 0, 1, 0, 0, 0, 1);
        Due.is("24: MAYBE stays", x.told(0, 2), 15);
        Due.is("24: all", x.way(0, 15), 0);
        row("24: none needed", x);
        Due.is("24: way", x.way(0, 7), 1);
        row("24", x, 1);
        x.maybe(0, 2);
        Due.is("24: one STATE, no press", x.way(0, 3), 0);
        Due.is("24: way", x.way(0, 1), 3);
        row("24", x, 0, 0, 0);
        x.maybe(0, 12);
        Due.is("24: way", x.way(0, 9), 1);
        row("24", x, 0);
        Due.is("24: way", x.way(0, 5), 1);
        row("24", x, 1);
        x.box(1, 2, 1);
        x.lead(1, 0, 0, 1);
        Due.is("24: there is none", x.way(1, 1), -2);
        Due.is("24: there is none", x.way(1, 2), -2);
    }

    private static void wayTakesTheLessButton() {
        OneHandset x = new OneHandset();
        // from 0: 1 then 0, or 2 then 0, or 0 then 3 lead to state 3; the least first BUTTON is due
        x.box(0, 4, 4);
        x.maybe(0, 1);
        x.lead(0, 0, 0, 1);
        x.lead(0, 0, 1, 2);
        x.lead(0, 0, 2, 2);
        x.lead(0, 2, 0, 3);
        x.lead(0, 1, 3, 3);
        Due.is("24: way", x.way(0, 8), 2);
        row("24: less BUTTON first", x, 0, 3);
        x.lead(0, 1, 3, 0);
        Due.is("24: way", x.way(0, 8), 2);
        row("24: less BUTTON first", x, 1, 0);
        x.lead(0, 2, 3, 3);
        x.lead(0, 2, 0, 0);
        x.lead(0, 2, 2, 3);
        Due.is("24: way", x.way(0, 8), 2);
        row("24: less BUTTON first", x, 1, 2);
        x.lead(0, 0, 3, 3);
        Due.is("24: shorter before less", x.way(0, 8), 1);
        row("24: shorter before less", x, 3);
    }

    private static void wayIsRefused() {
        OneHandset x = new OneHandset();
        x.box(0, 3, 2);
        for (int set : new int[] {0, 8, 9, -1, MIN, MAX}) {
            Due.is("24: no set", x.way(0, set), -1);
        }
        for (int box : new int[] {-1, 4, MIN, MAX}) {
            Due.is("24: no BOX", x.way(box, 1), -1);
        }
    }

    private static void wayOfManyPresses() {
        OneHandset x = new OneHandset();
        x.box(0, 8, 2);
        for (int state = 0; state < 8; state++) {
            x.lead(0, state, 0, (state + 1) % 8);
            x.lead(0, state, 1, state == 7 ? 0 : state);
        }
        Due.is("24: the synchronizing row of eight states", x.way(0, 1), 49);
        for (int i = 0; i < 49; i++) {
            Due.is("25: button(" + i + ")", x.button(i), i % 8 == 0 ? 1 : 0);
        }
        Due.is("25: button(49)", x.button(49), -1);
    }

    private static void buttonOfTheLatestThatToldOne() {
        OneHandset x = new OneHandset();
        Due.is("25: no way yet", x.button(0), -1);
        x.box(0, 2, 2);
        x.lead(0, 0, 1, 1);
        x.lead(0, 1, 1, 1);
        Due.is("25: way", x.way(0, 2), 1);
        for (int i : new int[] {-1, 1, 255, 256, MIN, MAX}) {
            Due.is("25: none such", x.button(i), -1);
        }
        x.box(1, 2, 1);
        x.lead(1, 0, 0, 1);
        Due.is("25: a way that told none", x.way(1, 1), -2);
        row("25: the earlier one stays", x, 1);
        Due.is("25: a refused way", x.way(0, 4), -1);
        row("25: the earlier one stays", x, 1);
        x.box(0, 1, 1);
        row("25: the earlier one stays", x, 1);
        Due.is("25: way", x.way(0, 1), 0);
        row("25: a row of none", x);
    }

    private static void toldTells() {
        OneHandset x = new OneHandset();
        x.box(3, 5, 2);
        x.maybe(3, 9);
        Due.is("26: STATES", x.told(3, 0), 5);
        Due.is("26: BUTTONS", x.told(3, 1), 2);
        Due.is("26: MAYBE", x.told(3, 2), 9);
        for (int what : new int[] {-1, 3, MIN, MAX}) {
            Due.is("26: another what", x.told(3, what), -1);
        }
        for (int box : new int[] {-1, 4, MIN, MAX}) {
            Due.is("26: no BOX", x.told(box, 0), -1);
        }
    }

    private static void countCounts() {
        OneHandset x = new OneHandset();
        x.make(0, 4, 900, 450, 56, 56, 168);
        x.make(1, 4, 900, 450, 56, 56, 168);
        x.feed(1, 2, 3, 4, 5);
        x.end(3);
        x.box(0, 2, 1);
        x.way(0, 1);
        Due.is("27: MAKES", x.count(0), 2);
        Due.is("27: TIMES", x.count(1), 3);
        Due.is("27: BUTTONS", x.count(2), 1);
        for (int what : new int[] {-1, 3, MIN, MAX}) {
            Due.is("27: another what", x.count(what), -1);
        }
    }
}
