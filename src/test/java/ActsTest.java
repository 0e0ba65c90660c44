/** Promises 39 and 40, sentence by sentence: acts and their trace, by hand and beside the classes of the second program. */
public final class ActsTest {
    private static final Checks CHECKS = new Checks("ActsTest");
    private static final int MIN = Integer.MIN_VALUE;
    private static final int MAX = Integer.MAX_VALUE;

    public static void main(String[] args) {
        bodies();
        wrapping();
        besideClasses();
        noSuch();
        trace();
        traceBounds();
        CHECKS.finish();
    }

    /** A band of the kind as number m, with a k, behind others. */
    private static DownTheMiddle numbered(int kind, int m, int k) {
        DownTheMiddle x = new DownTheMiddle();
        for (int b = 0; b < m; b++) {
            x.band(6 - kind, 3, 3, 0, 9);
        }
        x.band(kind, 3, 3, 0, k);
        return x;
    }

    private static void acts(int kind, int act, int v, int want, int... bodies) {
        DownTheMiddle x = numbered(kind, 3, 4);
        CHECKS.due("act " + act + " of KIND " + kind + " with " + v, x.act(3, act, v), want);
        traceIs(x, bodies);
    }

    private static void traceIs(DownTheMiddle x, int... want) {
        CHECKS.due("status(4)", x.status(4), want.length);
        for (int i = 0; i < want.length; i++) {
            CHECKS.due("trace(" + i + ")", x.trace(i), want[i]);
        }
        CHECKS.due("trace(" + want.length + ")", x.trace(want.length), -1);
    }

    private static void bodies() {
        CHECKS.sentence("39: BAND", () -> {
            acts(0, 0, 20, 23, 10);
            acts(0, 1, 20, 46, 11, 10);
            acts(0, 2, 20, 46 ^ 19, 12, 11, 10, 10);
        });
        CHECKS.sentence("39: LINED", () -> {
            acts(1, 0, 20, 27, 20, 10);
            acts(1, 1, 20, 54, 11, 20, 10);
            acts(1, 2, 20, 54 ^ 23, 12, 11, 20, 10, 20, 10);
        });
        CHECKS.sentence("39: SWAPPED", () -> {
            acts(2, 0, 20, 23, 10);
            acts(2, 1, 20, 138, 30, 11, 10);
            acts(2, 2, 20, 138 ^ 19, 12, 30, 11, 10, 10);
        });
        CHECKS.sentence("39: DOUBLE", () -> {
            acts(3, 0, 20, 27, 20, 10);
            acts(3, 1, 20, 56, 40, 11, 20, 10);
            acts(3, 2, 20, 56 ^ 23, 12, 40, 11, 20, 10, 20, 10);
        });
        CHECKS.sentence("39: PLAIN", () -> {
            acts(4, 0, 20, 20, 51, 10);
            acts(4, 1, 20, 40, 11, 51, 10);
            acts(4, 2, 20, -(40 ^ 16), 50, 12, 11, 51, 10, 51, 10);
        });
        CHECKS.sentence("39: MIRROR", () -> {
            acts(5, 0, 20, 23, 10);
            acts(5, 1, 20, 138, 30, 11, 10);
            acts(5, 2, 20, 138 ^ 19 ^ 5, 60, 12, 30, 11, 10, 10);
        });
        CHECKS.sentence("39: LAST", () -> {
            acts(6, 0, 20, 40, 70, 51, 10);
            acts(6, 1, 20, 64, 71, 11, 70, 51, 10);
            acts(6, 2, 20, -(64 ^ 32), 50, 12, 71, 11, 70, 51, 10, 70, 51, 10);
        });
        CHECKS.sentence("39: m the number, from 0 to 5", () -> {
            for (int m = 0; m < 6; m++) {
                CHECKS.due("BAND " + m + " goes", numbered(0, m, 4).act(m, 0, 20), 20 + m);
            }
        });
        CHECKS.sentence("39: k its a, from 0 to 9", () -> {
            CHECKS.due("LINED of 0 goes", numbered(1, 0, 0).act(0, 0, 20), 20);
            CHECKS.due("LINED of 9 goes", numbered(1, 0, 9).act(0, 0, 20), 29);
        });
        CHECKS.sentence("39: nothing else is changed, neither by TWISTS nor STRIPS", () -> {
            DownTheMiddle x = numbered(6, 3, 4);
            x.act(3, 2, 20);
            CHECKS.due("bands", Told.bands(x), Told.bands(numbered(6, 3, 4)));
        });
    }

    private static void wrapping() {
        CHECKS.sentence("39: with x, wrapping", () -> {
            acts(0, 0, MAX, MIN + 2, 10);
            acts(0, 1, MAX, 4, 11, 10);
            acts(0, 1, MIN, 6, 11, 10);
            acts(1, 0, MAX, MIN + 6, 20, 10);
            acts(2, 1, MAX, 12, 30, 11, 10);
            acts(3, 1, MAX, 2 * (MIN + 7), 40, 11, 20, 10);
            acts(4, 0, MIN, MIN, 51, 10);
            acts(6, 0, MIN, 0, 70, 51, 10);
            acts(6, 1, MIN, (MAX - 3) * 2 * 2, 71, 11, 70, 51, 10);
        });
        CHECKS.sentence("39: of an x below 0", () -> {
            acts(0, 0, -20, -17, 10);
            acts(0, 2, -20, -34 ^ -21, 12, 11, 10, 10);
        });
    }

    private static void besideClasses() {
        CHECKS.sentence("39: of every KIND, number and a, as classes of Java's own have it", () -> {
            int[] xs = {0, 1, -1, 5, 1000, MAX, MIN, 0x55555555};
            for (int kind = 0; kind < 7; kind++) {
                for (int m = 0; m < 6; m++) {
                    for (int k = 0; k < 10; k += 3) {
                        for (int v : xs) {
                            actsAre(kind, m, k, v);
                        }
                    }
                }
            }
        });
    }

    private static void actsAre(int kind, int m, int k, int v) {
        DownTheMiddle x = numbered(kind, m, k);
        Paper.Band due = Paper.Band.ofKind(kind);
        due.number = m;
        due.a = k;
        for (int act = 0; act < 3; act++) {
            due.bodies.clear();
            int want = act == 0 ? due.goes(v) : act == 1 ? due.turns(v) : due.hooks(v);
            CHECKS.due("act " + act + " of KIND " + kind + " with " + v, x.act(m, act, v), want);
            traceIs(x, due.bodies.stream().mapToInt(Integer::intValue).toArray());
        }
    }

    private static void none(int band, int act) {
        DownTheMiddle x = numbered(6, 1, 4);
        x.act(1, 2, 7);
        CHECKS.due("act(" + band + ", " + act + ", 7)", x.act(band, act, 7), 0);
        traceIs(x);
        CHECKS.due("trace(9)", x.trace(9), -1);
        CHECKS.due("refusals", Told.refusals(x), 0, 0, 0, 0, 0, 0, 0);
        CHECKS.due("bands", Told.bands(x), Told.bands(numbered(6, 1, 4)));
    }

    private static void noSuch() {
        CHECKS.sentence("39: 0, and no TRACE then: no such BAND", () -> {
            none(-1, 0);
            none(2, 0);
            none(MIN, 0);
            none(MAX, 0);
        });
        CHECKS.sentence("39: 0, and no TRACE then: no such ACT", () -> {
            none(0, -1);
            none(1, 3);
            none(0, MIN);
            none(0, MAX);
        });
        CHECKS.sentence("39: 0, and no TRACE then: neither", () -> none(2, 3));
        CHECKS.sentence("39: 0 without any BAND", () -> {
            DownTheMiddle x = new DownTheMiddle();
            CHECKS.due("act(0, 0, 5)", x.act(0, 0, 5), 0);
            traceIs(x);
        });
    }

    private static void trace() {
        CHECKS.sentence("40: NONE before any act()", () -> {
            CHECKS.due("trace(0)", numbered(0, 0, 0).trace(0), -1);
            CHECKS.due("trace(19)", numbered(0, 0, 0).trace(19), -1);
        });
        CHECKS.sentence("40: of the latest act() alone, also when a longer one ran before", () -> {
            DownTheMiddle x = numbered(6, 1, 4);
            x.act(1, 2, 7);
            x.act(1, 0, 7);
            traceIs(x, 70, 51, 10);
            for (int i = 3; i < 20; i++) {
                CHECKS.due("trace(" + i + ")", x.trace(i), -1);
            }
        });
        CHECKS.sentence("40: in the order in which they began", () -> acts(5, 2, 0, 18 ^ -1 ^ 5, 60, 12, 30, 11, 10, 10));
        CHECKS.sentence("40: asked for again, and nothing refused", () -> {
            DownTheMiddle x = numbered(0, 0, 0);
            x.act(0, 1, 1);
            traceIs(x, 11, 10);
            traceIs(x, 11, 10);
            CHECKS.due("refusals", Told.refusals(x), 0, 0, 0, 0, 0, 0, 0);
        });
        CHECKS.sentence("40: other calls leave it", () -> {
            DownTheMiddle x = numbered(4, 0, 4);
            x.act(0, 0, 1);
            x.turn(0);
            x.goes();
            x.pieces(0);
            traceIs(x, 51, 10);
        });
    }

    private static void traceBounds() {
        CHECKS.sentence("40: NONE: none such", () -> {
            DownTheMiddle x = numbered(6, 1, 4);
            x.act(1, 2, 7);
            CHECKS.due("the last", x.trace(9), 10);
            for (int i : new int[] {-1, 10, 11, 19, 20, 21, MIN, MAX}) {
                CHECKS.due("trace(" + i + ")", x.trace(i), -1);
            }
            CHECKS.due("refusals", Told.refusals(x), 0, 0, 0, 0, 0, 0, 0);
        });
    }
}
