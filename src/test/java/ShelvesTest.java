/** Promises 1 to 8: a new object, rows, and shelves. */
public final class ShelvesTest {
    private static final Checks CHECKS = new Checks("ShelvesTest");

    public static void main(String[] args) {
        aNewObject();
        row();
        set();
        copy();
        copyRefusals();
        element();
        show();
        holds();
        says();
        saysRefusals();
        CHECKS.finish();
    }

    private static void aNewObject() {
        DownTheMiddle x = new DownTheMiddle();
        CHECKS.due("status(0)", x.status(0), 0);
        CHECKS.due("status(1)", x.status(1), 0);
        CHECKS.due("status(2)", x.status(2), 0);
        CHECKS.due("status(3)", x.status(3), 1);
        CHECKS.due("status(4)", x.status(4), 0);
        for (int r = 11; r <= 17; r++) {
            CHECKS.due("status(" + r + ")", x.status(r), 0);
        }
        for (int s = 0; s < 8; s++) {
            CHECKS.due("holds(" + s + ")", x.holds(s), -1);
        }
        CHECKS.due("fault()", x.fault(), -1);
        CHECKS.due("trace(0)", x.trace(0), -1);
        CHECKS.due("NONE", DownTheMiddle.NONE, -1);
    }

    private static void row() {
        DownTheMiddle x = new DownTheMiddle();
        for (int sort = 0; sort < 4; sort++) {
            CHECKS.due("row", x.row(7, sort, 160), 1);
            CHECKS.due("holds", x.holds(7), 100 + sort);
            CHECKS.due("element", x.element(7, 159), 0);
            CHECKS.due("set", x.set(7, 159, 5), 1);
        }
        CHECKS.due("a new row is all 0", x.row(7, 3, 160), 1);
        CHECKS.due("element", x.element(7, 159), 0);
        CHECKS.due("row of none", x.row(0, 0, 0), 1);
        CHECKS.due("holds", x.holds(0), 100);
        x.band(0, 0, 1, 0, 0);
        x.show(0, 0);
        CHECKS.due("row in place of a band", x.row(0, 2, 3), 1);
        CHECKS.due("holds", x.holds(0), 102);
        CHECKS.refused(x, "row(-1, 9, -1)", () -> x.row(-1, 9, -1), 1);
        CHECKS.refused(x, "row(8, 0, 0)", () -> x.row(8, 0, 0), 1);
        CHECKS.refused(x, "row(0, 4, -1)", () -> x.row(0, 4, -1), 4);
        CHECKS.refused(x, "row(0, 4, 161)", () -> x.row(0, 4, 161), 6);
        CHECKS.refused(x, "row(0, -1, 0)", () -> x.row(0, -1, 0), 6);
        CHECKS.refused(x, "row(0, 0, 161)", () -> x.row(0, 0, 161), 7);
        CHECKS.due("a refused row changes nothing", x.holds(0), 102);
    }

    private static void set() {
        DownTheMiddle x = new DownTheMiddle();
        long v = 0x123456789ABCDEF0L;
        long[] kept = {(byte) v, (short) v, (int) v, v};
        for (int sort = 0; sort < 4; sort++) {
            x.row(0, sort, 2);
            CHECKS.due("set", x.set(0, 1, v), 1);
            CHECKS.due("lowest bits", x.element(0, 1), kept[sort]);
            CHECKS.due("the other one", x.element(0, 0), 0);
        }
        x.row(0, 0, 2);
        x.set(0, 0, 200);
        CHECKS.due("a byte has a sign", x.element(0, 0), -56);
        x.row(0, 1, 2);
        x.set(0, 0, 40000);
        CHECKS.due("a short has a sign", x.element(0, 0), -25536);
        x.band(0, 0, 1, 0, 0);
        x.show(1, 0);
        CHECKS.refused(x, "set of no shelf", () -> x.set(8, 0, 1), 1);
        CHECKS.refused(x, "set of no shelf", () -> x.set(-1, 0, 1), 1);
        CHECKS.refused(x, "set of a band", () -> x.set(1, 0, 1), 2);
        CHECKS.refused(x, "set of nothing", () -> x.set(2, -1, 1), 3);
        CHECKS.refused(x, "set below", () -> x.set(0, -1, 1), 5);
        CHECKS.refused(x, "set beyond", () -> x.set(0, 2, 1), 5);
    }

    private static void copy() {
        DownTheMiddle x = new DownTheMiddle();
        Checks.numbers(x, 0, 2, 1, 2, 3, 4, 5);
        Checks.numbers(x, 1, 2, 9, 9, 9);
        CHECKS.due("copy", x.copy(0, 1, 2, 1, 2), 1);
        row(x, 1, 9, 3, 4);
        CHECKS.due("copy forward onto itself", x.copy(0, 0, 0, 1, 4), 1);
        row(x, 0, 1, 1, 2, 3, 4);
        CHECKS.due("copy back onto itself", x.copy(0, 0, 2, 1, 3), 1);
        row(x, 0, 1, 2, 3, 4, 4);
        CHECKS.due("copy of none at the ends", x.copy(0, 1, 5, 3, 0), 1);
        row(x, 1, 9, 3, 4);
        CHECKS.due("copy whole", x.copy(1, 0, 0, 2, 3), 1);
        row(x, 0, 1, 2, 9, 3, 4);
    }

    private static void row(DownTheMiddle x, int s, long... want) {
        for (int i = 0; i < want.length; i++) {
            CHECKS.due("element(" + s + ", " + i + ")", x.element(s, i), want[i]);
        }
    }

    private static void copyRefusals() {
        DownTheMiddle x = new DownTheMiddle();
        x.row(0, 2, 5);
        x.row(1, 2, 3);
        x.row(2, 3, 3);
        x.band(0, 0, 1, 0, 0);
        x.show(3, 0);
        CHECKS.refused(x, "from no shelf", () -> x.copy(8, 3, 0, 0, 0), 1);
        CHECKS.refused(x, "to no shelf", () -> x.copy(3, -1, 0, 0, 0), 1);
        CHECKS.refused(x, "a band and nothing", () -> x.copy(3, 4, 0, 0, 0), 2);
        CHECKS.refused(x, "nothing and a band", () -> x.copy(4, 3, 0, 0, 0), 2);
        CHECKS.refused(x, "a band twice", () -> x.copy(3, 3, 0, 0, 0), 2);
        CHECKS.refused(x, "two sorts", () -> x.copy(0, 2, 0, 0, -1), 2);
        CHECKS.refused(x, "from nothing", () -> x.copy(4, 0, 0, 0, -1), 3);
        CHECKS.refused(x, "to nothing", () -> x.copy(2, 4, 0, 0, -1), 3);
        CHECKS.refused(x, "below none", () -> x.copy(0, 1, -1, -1, -1), 4);
        CHECKS.refused(x, "from below 0", () -> x.copy(0, 1, -1, 0, 1), 5);
        CHECKS.refused(x, "to below 0", () -> x.copy(0, 1, 0, -1, 1), 5);
        CHECKS.refused(x, "from beyond", () -> x.copy(0, 1, 5, 0, 1), 5);
        CHECKS.refused(x, "to beyond", () -> x.copy(0, 1, 0, 2, 2), 5);
        CHECKS.refused(x, "none from beyond", () -> x.copy(0, 1, 6, 0, 0), 5);
        CHECKS.refused(x, "very far", () -> x.copy(0, 1, Integer.MAX_VALUE, 0, 1), 5);
        CHECKS.refused(x, "very many", () -> x.copy(0, 1, 1, 1, Integer.MAX_VALUE), 5);
    }

    private static void element() {
        DownTheMiddle x = new DownTheMiddle();
        Checks.numbers(x, 0, 3, Long.MIN_VALUE, Long.MAX_VALUE);
        x.band(0, 7, 1, 0, 0);
        x.show(1, 0);
        row(x, 0, Long.MIN_VALUE, Long.MAX_VALUE, 0);
        CHECKS.due("below", x.element(0, -1), 0);
        CHECKS.due("of a band", x.element(1, 0), 0);
        CHECKS.due("of nothing", x.element(2, 0), 0);
        CHECKS.due("of no shelf", x.element(8, 0), 0);
        CHECKS.due("of no shelf", x.element(-1, 0), 0);
        x.show(0, -1);
        CHECKS.due("a row that is gone", x.element(0, 0), 0);
        for (int r = 11; r <= 17; r++) {
            CHECKS.due("element refuses nothing", x.status(r), 0);
        }
    }

    private static void show() {
        DownTheMiddle x = Checks.withBand(0, 0, 1, 0, 0);
        CHECKS.due("show", x.show(7, 0), 1);
        CHECKS.due("holds", x.holds(7), 0);
        CHECKS.refused(x, "no such shelf", () -> x.show(8, 0), 1);
        CHECKS.refused(x, "no such shelf", () -> x.show(-1, -1), 1);
        CHECKS.refused(x, "no such band", () -> x.show(7, 1), 1);
        CHECKS.refused(x, "no such band", () -> x.show(7, -2), 1);
        CHECKS.due("holds still", x.holds(7), 0);
        CHECKS.due("show nothing", x.show(7, -1), 0);
        CHECKS.due("holds", x.holds(7), -1);
        x.row(7, 1, 4);
        CHECKS.due("show in place of a row", x.show(7, 0), 1);
        CHECKS.due("holds", x.holds(7), 0);
    }

    private static void holds() {
        DownTheMiddle x = new DownTheMiddle();
        for (int b = 0; b < 6; b++) {
            x.band(0, 0, 1, 0, 0);
            x.show(b, b);
            CHECKS.due("holds a band", x.holds(b), b);
        }
        CHECKS.due("no such shelf", x.holds(8), -1);
        CHECKS.due("no such shelf", x.holds(-1), -1);
        CHECKS.due("nothing is refused", x.status(11), 0);
    }

    private static void says() {
        // KIND, TWISTS, STRIPS, a; then what it says taken for KIND 0 to 6, -2 where it is not of it.
        int[][] due = {
            {0, 9, 5, 3, 9, -2, -2, -2, -2, -2, -2},
            {1, 3, 5, 2, 3, 1, -2, -2, -2, -2, -2},
            {1, 2, 1, 9, 2, 0, -2, -2, -2, -2, -2},
            {2, 3, 5, 2, 3, -2, 4, -2, -2, -2, -2},
            {2, 3, 6, 2, 3, -2, 6, -2, -2, -2, -2},
            {2, 3, 1, 2, 3, -2, 0, -2, -2, -2, -2},
            {3, 2, 5, 4, 2, 3, -2, 2, -2, -2, -2},
            {3, 1, 5, 3, 1, 0, -2, 4, -2, -2, -2},
            {4, 7, 12, 8, 7, -2, -2, -2, 12, -2, -2},
            {5, 1, 5, 3, 1, -2, 4, -2, -2, 1, -2},
            {5, 1, 4, 3, 1, -2, 4, -2, -2, 0, -2},
            {6, 7, 12, 8, 7, -2, -2, -2, 10, -2, 8},
            {6, 7, 1, 8, 7, -2, -2, -2, 1, -2, 8},
        };
        for (int[] told : due) {
            DownTheMiddle x = Checks.withBand(told[0], told[1], told[2], 0, told[3]);
            x.show(4, 0);
            for (int kind = 0; kind < 7; kind++) {
                CHECKS.due("KIND " + told[0] + " says for " + kind, x.says(4, kind), told[4 + kind]);
            }
        }
    }

    private static void saysRefusals() {
        DownTheMiddle x = Checks.withBand(4, 0, 1, 0, 0);
        x.show(0, 0);
        x.row(1, 0, 1);
        CHECKS.refused(x, "no such shelf", () -> x.says(8, 0), 1);
        CHECKS.refused(x, "no such shelf", () -> x.says(-1, 0), 1);
        CHECKS.refused(x, "no such kind, a row", () -> x.says(1, 7), 1);
        CHECKS.refused(x, "no such kind, nothing", () -> x.says(2, -1), 1);
        CHECKS.refused(x, "a row", () -> x.says(1, 0), 2);
        CHECKS.refused(x, "another kind", () -> x.says(0, 6), 2);
        CHECKS.refused(x, "nothing", () -> x.says(2, 6), 3);
    }
}
