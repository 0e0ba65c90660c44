/** Promises 1 to 8, sentence by sentence: a new object, rows, and shelves. */
public final class ShelvesTest {
    private static final Checks CHECKS = new Checks("ShelvesTest");
    private static final int MIN = Integer.MIN_VALUE;
    private static final int MAX = Integer.MAX_VALUE;

    public static void main(String[] args) {
        aNewObject();
        row();
        rowRefusals();
        set();
        setRefusals();
        copy();
        copyRefusals();
        element();
        show();
        holds();
        says();
        saysRefusals();
        CHECKS.finish();
    }

    /** Shelf 0 to 3: a row of 3 of each sort; 4: five ints; 5: no bytes; 6: band 1 of two; 7: nothing. */
    private static DownTheMiddle scene() {
        DownTheMiddle x = new DownTheMiddle();
        x.image();
        x.band(4, 3, 5, 0, 2);
        x.band(5, 2, 3, 1, 8);
        for (int sort = 0; sort < 4; sort++) {
            Checks.numbers(x, sort, sort, 11, -12, 13);
        }
        Checks.numbers(x, 4, 2, 21, 22, 23, 24, 25);
        x.row(5, 0, 0);
        x.show(6, 1);
        return x;
    }

    private static void elements(DownTheMiddle x, int s, long... want) {
        for (int i = 0; i < want.length; i++) {
            CHECKS.due("element(" + s + ", " + i + ")", x.element(s, i), want[i]);
        }
        CHECKS.due("no element behind the last of " + s, x.element(s, want.length), 0);
    }

    private static void aNewObject() {
        CHECKS.sentence("1: no BANDS", () -> {
            DownTheMiddle x = new DownTheMiddle();
            CHECKS.due("status(0)", x.status(0), 0);
            CHECKS.due("status(1)", x.status(1), 0);
            CHECKS.due("pieces(0)", x.pieces(0), -1);
            CHECKS.due("bandOf(0, 0)", x.bandOf(0, 0), -5);
            CHECKS.due("goes()", x.goes(), -6);
        });
        CHECKS.sentence("1: SHELVES hold NOTHING at first", () -> {
            DownTheMiddle x = new DownTheMiddle();
            for (int s = 0; s < 8; s++) {
                CHECKS.due("holds(" + s + ")", x.holds(s), -1);
            }
        });
        CHECKS.sentence("1: SEED 1 at first", () -> CHECKS.due("status(3)", new DownTheMiddle().status(3), 1));
        CHECKS.sentence("1: nothing cut, run, refused, found or drawn yet", () -> {
            DownTheMiddle x = new DownTheMiddle();
            CHECKS.due("status(2)", x.status(2), 0);
            CHECKS.due("status(4)", x.status(4), 0);
            CHECKS.due("refusals", Told.refusals(x), 0, 0, 0, 0, 0, 0, 0);
            CHECKS.due("fault()", x.fault(), -1);
            CHECKS.due("trace(0)", x.trace(0), -1);
            CHECKS.due("restore()", x.restore(), -6);
        });
        CHECKS.sentence("1: NONE is -1", () -> CHECKS.due("NONE", DownTheMiddle.NONE, -1));
        CHECKS.sentence("1: two objects have nothing of each other", () -> {
            long[] fresh = Told.all(new DownTheMiddle());
            DownTheMiddle other = scene();
            other.seed(9);
            other.act(0, 0, 0);
            Checks.table(other, "x");
            CHECKS.due("a new object beside another", Told.all(new DownTheMiddle()), fresh);
        });
    }

    private static void row() {
        CHECKS.sentence("2: SHELF s holds a new ROW: 1", () -> {
            DownTheMiddle x = new DownTheMiddle();
            CHECKS.due("row(3, 2, 4)", x.row(3, 2, 4), 1);
            CHECKS.due("holds(3)", x.holds(3), 102);
            CHECKS.due("set(3, 3, 5)", x.set(3, 3, 5), 1);
            elements(x, 3, 0, 0, 0, 5);
        });
        CHECKS.sentence("2: SHELVES 0 and 7 are the first and the last", () -> {
            DownTheMiddle x = new DownTheMiddle();
            CHECKS.due("row(0, 1, 1)", x.row(0, 1, 1), 1);
            CHECKS.due("row(7, 1, 1)", x.row(7, 1, 1), 1);
            CHECKS.due("holds(0)", x.holds(0), 101);
            CHECKS.due("holds(7)", x.holds(7), 101);
        });
        CHECKS.sentence("2: SORT 0 bytes to 3 longs", () -> {
            DownTheMiddle x = new DownTheMiddle();
            for (int sort = 0; sort < 4; sort++) {
                CHECKS.due("row(1, " + sort + ", 2)", x.row(1, sort, 2), 1);
                CHECKS.due("holds(1)", x.holds(1), 100 + sort);
            }
        });
        CHECKS.sentence("2: a ROW of 0 elements", () -> {
            DownTheMiddle x = new DownTheMiddle();
            CHECKS.due("row(0, 0, 0)", x.row(0, 0, 0), 1);
            CHECKS.due("holds(0)", x.holds(0), 100);
            CHECKS.due("set(0, 0, 1)", x.set(0, 0, 1), -5);
        });
        for (int sort = 0; sort < 4; sort++) {
            int of = sort;
            CHECKS.sentence("2: a ROW of 160 elements, SORT " + sort, () -> {
                DownTheMiddle x = new DownTheMiddle();
                CHECKS.due("row(0, " + of + ", 160)", x.row(0, of, 160), 1);
                CHECKS.due("set(0, 159, 7)", x.set(0, 159, 7), 1);
                CHECKS.due("element(0, 159)", x.element(0, 159), 7);
                CHECKS.due("set(0, 160, 7)", x.set(0, 160, 7), -5);
            });
        }
        CHECKS.sentence("2: elements are 0 at first, where a longer and where a shorter ROW was", () -> {
            DownTheMiddle x = scene();
            x.row(4, 2, 3);
            elements(x, 4, 0, 0, 0);
            x.set(4, 2, 9);
            x.row(4, 2, 5);
            elements(x, 4, 0, 0, 0, 0, 0);
            x.row(4, 2, 0);
            x.row(4, 3, 160);
            for (int i = 0; i < 160; i++) {
                CHECKS.due("element(4, " + i + ")", x.element(4, i), 0);
            }
        });
        CHECKS.sentence("2: in place of a BAND, which stays", () -> {
            DownTheMiddle x = scene();
            CHECKS.due("row(6, 2, 3)", x.row(6, 2, 3), 1);
            CHECKS.due("holds(6)", x.holds(6), 102);
            CHECKS.due("status(0)", x.status(0), 2);
        });
        CHECKS.sentence("2: other SHELVES stay as they are", () -> {
            DownTheMiddle x = scene();
            x.row(1, 0, 3);
            elements(x, 0, 11, -12, 13);
            elements(x, 2, 11, -12, 13);
            CHECKS.due("holds(6)", x.holds(6), 1);
        });
    }

    private static void rowRefused(int s, int sort, int n, int number) {
        CHECKS.refused(ShelvesTest::scene, "row(" + s + ", " + sort + ", " + n + ")", x -> x.row(s, sort, n), number);
    }

    private static void rowRefusals() {
        CHECKS.sentence("2: -1 no such SHELF", () -> {
            rowRefused(-1, 0, 0, 1);
            rowRefused(8, 0, 0, 1);
            rowRefused(MIN, 0, 0, 1);
            rowRefused(MAX, 0, 0, 1);
        });
        CHECKS.sentence("2: -4 n below 0", () -> {
            rowRefused(0, 0, -1, 4);
            rowRefused(0, 0, MIN, 4);
        });
        CHECKS.sentence("2: -6 SORT", () -> {
            rowRefused(0, -1, 0, 6);
            rowRefused(0, 4, 0, 6);
            rowRefused(0, MIN, 160, 6);
            rowRefused(0, MAX, 160, 6);
        });
        CHECKS.sentence("2: -7 n above 160", () -> {
            rowRefused(0, 0, 161, 7);
            rowRefused(7, 3, 161, 7);
            rowRefused(4, 2, MAX, 7);
        });
        CHECKS.sentence("2: -1 before -4", () -> rowRefused(8, 0, -1, 1));
        CHECKS.sentence("2: -1 before -6", () -> rowRefused(-1, 4, 0, 1));
        CHECKS.sentence("2: -1 before -7", () -> rowRefused(8, 0, 161, 1));
        CHECKS.sentence("2: -4 before -6", () -> rowRefused(4, 4, -1, 4));
        CHECKS.sentence("2: -6 before -7", () -> rowRefused(4, -1, 161, 6));
        CHECKS.sentence("2: -1 before all", () -> rowRefused(8, -1, 161, 1));
    }

    private static void keeps(int sort, long put, long kept) {
        DownTheMiddle x = new DownTheMiddle();
        x.row(0, sort, 2);
        CHECKS.due("set(0, 1, " + put + ")", x.set(0, 1, put), 1);
        CHECKS.due("element(0, 1) of " + put, x.element(0, 1), kept);
    }

    private static void set() {
        CHECKS.sentence("3: element i of the ROW becomes v: 1", () -> {
            DownTheMiddle x = scene();
            CHECKS.due("set(4, 2, 99)", x.set(4, 2, 99), 1);
            elements(x, 4, 21, 22, 99, 24, 25);
            elements(x, 2, 11, -12, 13);
        });
        CHECKS.sentence("3: the first and the last element", () -> {
            DownTheMiddle x = scene();
            CHECKS.due("set(4, 0, 1)", x.set(4, 0, 1), 1);
            CHECKS.due("set(4, 4, 5)", x.set(4, 4, 5), 1);
            elements(x, 4, 1, 22, 23, 24, 5);
        });
        CHECKS.sentence("3: bytes keep their lowest 8 bits", () -> {
            keeps(0, 127, 127);
            keeps(0, 128, -128);
            keeps(0, -128, -128);
            keeps(0, -129, 127);
            keeps(0, 255, -1);
            keeps(0, 256, 0);
            keeps(0, Long.MIN_VALUE + 7, 7);
        });
        CHECKS.sentence("3: shorts keep their lowest 16 bits", () -> {
            keeps(1, 32767, 32767);
            keeps(1, 32768, -32768);
            keeps(1, -32768, -32768);
            keeps(1, -32769, 32767);
            keeps(1, 65535, -1);
            keeps(1, 65536, 0);
            keeps(1, 128, 128);
        });
        CHECKS.sentence("3: ints keep their lowest 32 bits", () -> {
            keeps(2, MAX, MAX);
            keeps(2, MAX + 1L, MIN);
            keeps(2, MIN, MIN);
            keeps(2, MIN - 1L, MAX);
            keeps(2, (1L << 32) - 1, -1);
            keeps(2, 1L << 32, 0);
            keeps(2, 32768, 32768);
        });
        CHECKS.sentence("3: longs keep all", () -> {
            keeps(3, Long.MAX_VALUE, Long.MAX_VALUE);
            keeps(3, Long.MIN_VALUE, Long.MIN_VALUE);
            keeps(3, 1L << 32, 1L << 32);
            keeps(3, -1, -1);
        });
    }

    private static void setRefused(int s, int i, int number) {
        CHECKS.refused(ShelvesTest::scene, "set(" + s + ", " + i + ", 1)", x -> x.set(s, i, 1), number);
    }

    private static void setRefusals() {
        CHECKS.sentence("3: -1 no such SHELF", () -> {
            setRefused(-1, 0, 1);
            setRefused(8, 0, 1);
            setRefused(MIN, 0, 1);
            setRefused(MAX, 0, 1);
        });
        CHECKS.sentence("3: -2 a BAND", () -> setRefused(6, 0, 2));
        CHECKS.sentence("3: -3 NOTHING", () -> setRefused(7, 0, 3));
        CHECKS.sentence("3: -5 an element that isn't there", () -> {
            setRefused(4, -1, 5);
            setRefused(4, 5, 5);
            setRefused(4, MIN, 5);
            setRefused(4, MAX, 5);
            setRefused(5, 0, 5);
            setRefused(0, 3, 5);
        });
        CHECKS.sentence("3: -1 before -5", () -> setRefused(8, -1, 1));
        CHECKS.sentence("3: -2 before -5", () -> setRefused(6, -1, 2));
        CHECKS.sentence("3: -3 before -5", () -> setRefused(7, 160, 3));
    }

    private static void copy() {
        CHECKS.sentence("4: n elements come to those of the other", () -> {
            DownTheMiddle x = scene();
            CHECKS.due("copy(4, 2, 3, 1, 2)", x.copy(4, 2, 3, 1, 2), 1);
            elements(x, 2, 11, 24, 25);
            elements(x, 4, 21, 22, 23, 24, 25);
        });
        CHECKS.sentence("4: as they were ahead, forward in one ROW", () -> {
            DownTheMiddle x = scene();
            CHECKS.due("copy(4, 4, 0, 1, 4)", x.copy(4, 4, 0, 1, 4), 1);
            elements(x, 4, 21, 21, 22, 23, 24);
        });
        CHECKS.sentence("4: as they were ahead, back in one ROW", () -> {
            DownTheMiddle x = scene();
            CHECKS.due("copy(4, 4, 1, 0, 4)", x.copy(4, 4, 1, 0, 4), 1);
            elements(x, 4, 22, 23, 24, 25, 25);
        });
        CHECKS.sentence("4: none, from the first on and behind the last", () -> {
            DownTheMiddle x = scene();
            CHECKS.due("copy(4, 2, 0, 0, 0)", x.copy(4, 2, 0, 0, 0), 1);
            CHECKS.due("copy(4, 2, 5, 3, 0)", x.copy(4, 2, 5, 3, 0), 1);
            CHECKS.due("copy(5, 0, 0, 3, 0)", x.copy(5, 0, 0, 3, 0), 1);
            CHECKS.due("copy(0, 5, 3, 0, 0)", x.copy(0, 5, 3, 0, 0), 1);
            CHECKS.due("copy(5, 5, 0, 0, 0)", x.copy(5, 5, 0, 0, 0), 1);
            CHECKS.due("all", Told.all(x), Told.all(scene()));
        });
        CHECKS.sentence("4: all, up to both ends", () -> {
            DownTheMiddle x = scene();
            CHECKS.due("copy(2, 4, 0, 2, 3)", x.copy(2, 4, 0, 2, 3), 1);
            elements(x, 4, 21, 22, 11, -12, 13);
        });
        CHECKS.sentence("4: all 160", () -> {
            DownTheMiddle x = new DownTheMiddle();
            x.row(0, 1, 160);
            x.row(1, 1, 160);
            x.set(0, 0, 5);
            x.set(0, 159, 6);
            CHECKS.due("copy(0, 1, 0, 0, 160)", x.copy(0, 1, 0, 0, 160), 1);
            CHECKS.due("element(1, 0)", x.element(1, 0), 5);
            CHECKS.due("element(1, 159)", x.element(1, 159), 6);
        });
        CHECKS.sentence("4: of each SORT", () -> {
            for (int sort = 0; sort < 4; sort++) {
                DownTheMiddle x = scene();
                Checks.numbers(x, 7, sort, 101, -102);
                CHECKS.due("copy(7, " + sort + ", 0, 1, 2)", x.copy(7, sort, 0, 1, 2), 1);
                elements(x, sort, 11, 101, -102);
            }
        });
    }

    private static void copyRefused(int p, int q, int i, int j, int n, int number) {
        String call = "copy(" + p + ", " + q + ", " + i + ", " + j + ", " + n + ")";
        CHECKS.refused(ShelvesTest::scene, call, x -> x.copy(p, q, i, j, n), number);
    }

    private static void copyRefusals() {
        CHECKS.sentence("4: -1 no such SHELF, either", () -> {
            copyRefused(-1, 4, 0, 0, 1, 1);
            copyRefused(8, 4, 0, 0, 1, 1);
            copyRefused(4, -1, 0, 0, 1, 1);
            copyRefused(4, 8, 0, 0, 1, 1);
            copyRefused(MIN, MAX, 0, 0, 1, 1);
        });
        CHECKS.sentence("4: -2 a BAND, either", () -> {
            copyRefused(6, 4, 0, 0, 1, 2);
            copyRefused(4, 6, 0, 0, 1, 2);
            copyRefused(6, 6, 0, 0, 0, 2);
        });
        CHECKS.sentence("4: -2 also of two SORTS", () -> {
            for (int p = 0; p < 4; p++) {
                for (int q = 0; q < 4; q++) {
                    if (p != q) {
                        copyRefused(p, q, 0, 0, 1, 2);
                    }
                }
            }
            copyRefused(5, 2, 0, 0, 0, 2);
        });
        CHECKS.sentence("4: -3 NOTHING, either", () -> {
            copyRefused(7, 4, 0, 0, 1, 3);
            copyRefused(4, 7, 0, 0, 1, 3);
            copyRefused(7, 7, 0, 0, 0, 3);
        });
        CHECKS.sentence("4: of two SORTS only when both hold something", () -> {
            for (int s = 0; s < 4; s++) {
                copyRefused(7, s, 0, 0, 1, 3);
                copyRefused(s, 7, 0, 0, 1, 3);
            }
        });
        CHECKS.sentence("4: -4 n below 0", () -> {
            copyRefused(4, 2, 0, 0, -1, 4);
            copyRefused(4, 4, 1, 1, MIN, 4);
        });
        CHECKS.sentence("4: -5 i below 0", () -> {
            copyRefused(4, 2, -1, 0, 1, 5);
            copyRefused(4, 2, -1, 0, 0, 5);
            copyRefused(4, 2, MIN, 0, 3, 5);
        });
        CHECKS.sentence("4: -5 j below 0", () -> {
            copyRefused(4, 2, 0, -1, 1, 5);
            copyRefused(4, 2, 0, -1, 0, 5);
            copyRefused(4, 2, 0, MIN, 3, 5);
        });
        CHECKS.sentence("4: -5 an end that isn't there, of the first", () -> {
            copyRefused(2, 4, 0, 0, 4, 5);
            copyRefused(2, 4, 3, 0, 1, 5);
            copyRefused(2, 4, 1, 0, 3, 5);
            copyRefused(2, 4, 4, 0, 0, 5);
            copyRefused(2, 4, MAX, 0, 1, 5);
            copyRefused(2, 4, MAX, 0, MAX, 5);
            copyRefused(2, 4, 1, 0, MAX, 5);
        });
        CHECKS.sentence("4: -5 an end that isn't there, of the other", () -> {
            copyRefused(4, 2, 0, 0, 4, 5);
            copyRefused(4, 2, 0, 3, 1, 5);
            copyRefused(4, 2, 0, 1, 3, 5);
            copyRefused(4, 2, 0, 4, 0, 5);
            copyRefused(4, 2, 0, MAX, 1, 5);
            copyRefused(4, 2, 0, MAX, MAX, 5);
            copyRefused(4, 4, 0, 1, 5, 5);
        });
        CHECKS.sentence("4: -1 before -2", () -> {
            copyRefused(8, 6, 0, 0, 1, 1);
            copyRefused(6, 8, 0, 0, 1, 1);
        });
        CHECKS.sentence("4: -1 before -3", () -> {
            copyRefused(-1, 7, 0, 0, 1, 1);
            copyRefused(7, -1, 0, 0, 1, 1);
        });
        CHECKS.sentence("4: -1 before -4", () -> copyRefused(8, 4, 0, 0, -1, 1));
        CHECKS.sentence("4: -1 before -5", () -> copyRefused(4, 8, -1, 0, 1, 1));
        CHECKS.sentence("4: -2 before -3", () -> {
            copyRefused(6, 7, 0, 0, 1, 2);
            copyRefused(7, 6, 0, 0, 1, 2);
        });
        CHECKS.sentence("4: -2 before -4", () -> {
            copyRefused(6, 4, 0, 0, -1, 2);
            copyRefused(3, 4, 0, 0, -1, 2);
        });
        CHECKS.sentence("4: -2 before -5", () -> {
            copyRefused(4, 6, -1, 0, 1, 2);
            copyRefused(3, 4, 9, 9, 9, 2);
        });
        CHECKS.sentence("4: -3 before -4", () -> {
            copyRefused(7, 4, 0, 0, -1, 3);
            copyRefused(4, 7, 0, 0, -1, 3);
        });
        CHECKS.sentence("4: -3 before -5", () -> {
            copyRefused(7, 4, -1, 0, 1, 3);
            copyRefused(4, 7, 0, 9, 1, 3);
        });
        CHECKS.sentence("4: -4 before -5", () -> copyRefused(4, 2, -1, -1, -1, 4));
    }

    private static void element() {
        CHECKS.sentence("5: element i of the ROW", () -> {
            DownTheMiddle x = new DownTheMiddle();
            Checks.numbers(x, 0, 3, Long.MIN_VALUE, -1, Long.MAX_VALUE);
            elements(x, 0, Long.MIN_VALUE, -1, Long.MAX_VALUE);
        });
        CHECKS.sentence("5: 0 if there is none", () -> {
            DownTheMiddle x = scene();
            CHECKS.due("element(4, -1)", x.element(4, -1), 0);
            CHECKS.due("element(4, 5)", x.element(4, 5), 0);
            CHECKS.due("element(4, MIN)", x.element(4, MIN), 0);
            CHECKS.due("element(4, MAX)", x.element(4, MAX), 0);
            CHECKS.due("element(5, 0)", x.element(5, 0), 0);
            CHECKS.due("of a BAND", x.element(6, 0), 0);
            CHECKS.due("of NOTHING", x.element(7, 0), 0);
            CHECKS.due("of no SHELF", x.element(8, 0), 0);
            CHECKS.due("of no SHELF", x.element(-1, 0), 0);
            CHECKS.due("of no SHELF", x.element(MIN, 0), 0);
            CHECKS.due("of no SHELF", x.element(MAX, 0), 0);
        });
        CHECKS.sentence("5: 0 of a ROW that is gone", () -> {
            DownTheMiddle x = scene();
            x.show(4, -1);
            CHECKS.due("element(4, 0)", x.element(4, 0), 0);
            x.show(2, 0);
            CHECKS.due("element(2, 0)", x.element(2, 0), 0);
        });
        CHECKS.sentence("5: nothing is refused", () -> {
            DownTheMiddle x = scene();
            x.element(4, 5);
            x.element(6, 0);
            x.element(7, 0);
            x.element(8, 0);
            CHECKS.due("refusals", Told.refusals(x), 0, 0, 0, 0, 0, 0, 0);
        });
    }

    private static void showRefused(int s, int band) {
        CHECKS.refused(ShelvesTest::scene, "show(" + s + ", " + band + ")", x -> x.show(s, band), 1);
    }

    private static void show() {
        CHECKS.sentence("6: SHELF s holds a BAND: 1", () -> {
            DownTheMiddle x = scene();
            CHECKS.due("show(7, 0)", x.show(7, 0), 1);
            CHECKS.due("holds(7)", x.holds(7), 0);
            CHECKS.due("show(7, 1)", x.show(7, 1), 1);
            CHECKS.due("holds(7)", x.holds(7), 1);
            CHECKS.due("show(0, 1), where a ROW was", x.show(0, 1), 1);
            CHECKS.due("holds(0)", x.holds(0), 1);
        });
        CHECKS.sentence("6: or NOTHING: 0", () -> {
            DownTheMiddle x = scene();
            CHECKS.due("show(6, NONE), where a BAND was", x.show(6, -1), 0);
            CHECKS.due("holds(6)", x.holds(6), -1);
            CHECKS.due("show(0, NONE), where a ROW was", x.show(0, -1), 0);
            CHECKS.due("holds(0)", x.holds(0), -1);
            CHECKS.due("show(7, NONE), where NOTHING was", x.show(7, -1), 0);
            CHECKS.due("holds(7)", x.holds(7), -1);
            CHECKS.due("show(0, NONE) without any BAND", new DownTheMiddle().show(0, -1), 0);
        });
        CHECKS.sentence("6: -1 no such SHELF", () -> {
            showRefused(-1, 0);
            showRefused(8, 0);
            showRefused(8, -1);
            showRefused(MIN, 0);
            showRefused(MAX, -1);
        });
        CHECKS.sentence("6: -1 no such BAND", () -> {
            showRefused(0, 2);
            showRefused(6, 2);
            showRefused(6, -2);
            showRefused(7, MIN);
            showRefused(7, MAX);
            CHECKS.refused(DownTheMiddle::new, "show(0, 0) without any BAND", x -> x.show(0, 0), 1);
        });
    }

    private static void holds() {
        CHECKS.sentence("7: a BAND's number, up to 5", () -> {
            DownTheMiddle x = new DownTheMiddle();
            for (int b = 0; b < 6; b++) {
                x.band(0, 0, 1, 0, 0);
                x.show(b, b);
            }
            for (int b = 0; b < 6; b++) {
                CHECKS.due("holds(" + b + ")", x.holds(b), b);
            }
        });
        CHECKS.sentence("7: 100 and the SORT of a ROW", () -> {
            for (int sort = 0; sort < 4; sort++) {
                CHECKS.due("holds(" + sort + ")", scene().holds(sort), 100 + sort);
            }
            CHECKS.due("of a ROW without elements", scene().holds(5), 100);
        });
        CHECKS.sentence("7: NONE: NOTHING", () -> CHECKS.due("holds(7)", scene().holds(7), -1));
        CHECKS.sentence("7: NONE: no such SHELF, and it isn't refused", () -> {
            DownTheMiddle x = scene();
            CHECKS.due("holds(-1)", x.holds(-1), -1);
            CHECKS.due("holds(8)", x.holds(8), -1);
            CHECKS.due("holds(MIN)", x.holds(MIN), -1);
            CHECKS.due("holds(MAX)", x.holds(MAX), -1);
            CHECKS.due("refusals", Told.refusals(x), 0, 0, 0, 0, 0, 0, 0);
        });
    }

    private static void saysIs(int kind, int twists, int strips, int a, int as, int want) {
        DownTheMiddle x = Checks.withBand(kind, twists, strips, 0, a);
        x.show(4, 0);
        CHECKS.due("KIND " + kind + " of " + twists + ", " + strips + ", " + a + " says for " + as, x.says(4, as), want);
    }

    private static void says() {
        CHECKS.sentence("8: for BAND each says its TWISTS", () -> {
            for (int kind = 0; kind < 7; kind++) {
                saysIs(kind, 9999, 5, 3, 0, 9999);
                saysIs(kind, 0, 1, 9, 0, 0);
            }
        });
        CHECKS.sentence("8: for LINED, where STRIP 0 goes on", () -> {
            saysIs(1, 3, 5, 2, 1, 1);
            saysIs(1, 2, 1, 9, 1, 0);
            saysIs(1, 0, 12, 9, 1, 9);
            saysIs(3, 2, 5, 4, 1, 3);
        });
        CHECKS.sentence("8: for SWAPPED, how many STRIPS have a pair", () -> {
            saysIs(2, 3, 5, 2, 2, 4);
            saysIs(2, 3, 6, 2, 2, 6);
            saysIs(2, 3, 1, 2, 2, 0);
            saysIs(2, 3, 2, 2, 2, 2);
            saysIs(2, 3, 12, 2, 2, 12);
            saysIs(5, 1, 11, 3, 2, 10);
        });
        CHECKS.sentence("8: for DOUBLE, where its last STRIP goes on", () -> {
            saysIs(3, 2, 5, 4, 3, 2);
            saysIs(3, 1, 5, 3, 3, 4);
            saysIs(3, 1, 1, 9, 3, 0);
        });
        CHECKS.sentence("8: for PLAIN, how many STRIPS go on as themselves", () -> {
            saysIs(4, 7, 12, 8, 4, 12);
            saysIs(6, 7, 12, 8, 4, 10);
            saysIs(6, 7, 2, 8, 4, 0);
            saysIs(6, 7, 1, 8, 4, 1);
        });
        CHECKS.sentence("8: for MIRROR, how many STRIPS go on as themselves", () -> {
            saysIs(5, 1, 5, 3, 5, 1);
            saysIs(5, 1, 4, 3, 5, 0);
            saysIs(5, 0, 1, 3, 5, 1);
            saysIs(5, 0, 2, 3, 5, 2);
        });
        CHECKS.sentence("8: for LAST, its a", () -> {
            saysIs(6, 7, 12, 9, 6, 9);
            saysIs(6, 7, 1, 0, 6, 0);
        });
        CHECKS.sentence("8: as the BAND is now, not as it was shown", () -> {
            DownTheMiddle x = Checks.withBand(0, 3, 5, 0, 0);
            x.show(0, 0);
            x.twist(0, 8);
            CHECKS.due("says(0, 0)", x.says(0, 0), 8);
            x.cut(0, 0);
            x.twist(0, 1);
            CHECKS.due("says(0, 0)", x.says(0, 0), 1);
        });
        CHECKS.sentence("8: of a KIND, or one under it", () -> {
            int[] above = {-1, 0, 0, 1, 0, 2, 4};
            for (int kind = 0; kind < 7; kind++) {
                for (int as = 0; as < 7; as++) {
                    DownTheMiddle x = Checks.withBand(kind, 1, 3, 0, 1);
                    x.show(0, 0);
                    boolean isOfIt = as == kind || as == 0 || as == above[kind];
                    CHECKS.due("refused for -2, KIND " + kind + " for " + as, x.says(0, as) == -2 ? 1 : 0, isOfIt ? 0 : 1);
                    CHECKS.due("status(12)", x.status(12), isOfIt ? 0 : 1);
                }
            }
        });
    }

    private static void saysRefused(int s, int kind, int number) {
        CHECKS.refused(ShelvesTest::scene, "says(" + s + ", " + kind + ")", x -> x.says(s, kind), number);
    }

    private static void saysRefusals() {
        CHECKS.sentence("8: -1 SHELF", () -> {
            saysRefused(-1, 0, 1);
            saysRefused(8, 0, 1);
            saysRefused(MIN, 0, 1);
            saysRefused(MAX, 0, 1);
        });
        CHECKS.sentence("8: -1 KIND", () -> {
            saysRefused(6, -1, 1);
            saysRefused(6, 7, 1);
            saysRefused(6, MIN, 1);
            saysRefused(6, MAX, 1);
        });
        CHECKS.sentence("8: -2 a ROW", () -> {
            saysRefused(0, 0, 2);
            saysRefused(5, 6, 2);
        });
        CHECKS.sentence("8: -2 also a BAND of another KIND: beside it, or under it", () -> {
            saysRefused(6, 1, 2);
            saysRefused(6, 3, 2);
            saysRefused(6, 4, 2);
            saysRefused(6, 6, 2);
            CHECKS.refused(() -> {
                DownTheMiddle x = scene();
                x.show(7, 0);
                return x;
            }, "says(7, 6) of a PLAIN one", x -> x.says(7, 6), 2);
        });
        CHECKS.sentence("8: -3 NOTHING, whichever the KIND", () -> {
            for (int kind = 0; kind < 7; kind++) {
                saysRefused(7, kind, 3);
            }
        });
        CHECKS.sentence("8: -1 before -2", () -> {
            saysRefused(0, 7, 1);
            saysRefused(0, -1, 1);
        });
        CHECKS.sentence("8: -1 before -3", () -> saysRefused(7, 7, 1));
    }
}
