/** Promises 9 to 13, sentence by sentence: bands, what is told of them, and what is changed in them. */
public final class BandsTest {
    private static final Checks CHECKS = new Checks("BandsTest");
    private static final int MIN = Integer.MIN_VALUE;
    private static final int MAX = Integer.MAX_VALUE;

    public static void main(String[] args) {
        band();
        bandRefusals();
        bandOf();
        twist();
        turn();
        paint();
        CHECKS.finish();
    }

    /** Bands of 3 and of 12 strips, some of them coloured; an image of one band. */
    private static DownTheMiddle scene() {
        DownTheMiddle x = Checks.withBand(2, 34, 3, 1, 7);
        x.image();
        x.band(6, 9999, 12, 0, 9);
        x.paint(0, 2, 4);
        x.paint(1, 11, 7);
        x.show(0, 1);
        return x;
    }

    private static DownTheMiddle full() {
        DownTheMiddle x = scene();
        for (int b = 2; b < 6; b++) {
            x.band(b, b, b, b % 2, b);
        }
        return x;
    }

    private static void bandIs(DownTheMiddle x, int band, int... want) {
        for (int what = 0; what < 5; what++) {
            CHECKS.due("bandOf(" + band + ", " + what + ")", x.bandOf(band, what), want[what]);
        }
    }

    private static void made(int kind, int twists, int strips, int hand, int a) {
        DownTheMiddle x = scene();
        CHECKS.due("band(" + kind + ", " + twists + ", " + strips + ", " + hand + ", " + a + ")",
                x.band(kind, twists, strips, hand, a), 2);
        bandIs(x, 2, kind, twists, strips, hand, a);
        CHECKS.due("status(0)", x.status(0), 3);
    }

    private static void band() {
        CHECKS.sentence("9: a BAND: the number, from 0 on, 6 at most", () -> {
            DownTheMiddle x = new DownTheMiddle();
            for (int b = 0; b < 6; b++) {
                CHECKS.due("band", x.band(b, b * 2, b + 1, b % 2, 9 - b), b);
                CHECKS.due("status(0)", x.status(0), b + 1);
            }
            for (int b = 0; b < 6; b++) {
                bandIs(x, b, b, b * 2, b + 1, b % 2, 9 - b);
            }
        });
        CHECKS.sentence("9: KIND 0 to 6", () -> {
            for (int kind = 0; kind < 7; kind++) {
                made(kind, 1, 2, 0, 3);
            }
        });
        CHECKS.sentence("9: TWISTS 0 to 9999", () -> {
            made(0, 0, 2, 0, 3);
            made(0, 9999, 2, 0, 3);
        });
        CHECKS.sentence("9: STRIPS 1 to 12", () -> {
            made(0, 1, 1, 0, 3);
            made(0, 1, 12, 0, 3);
        });
        CHECKS.sentence("9: HAND 0 left, 1 right", () -> {
            made(0, 1, 2, 0, 3);
            made(0, 1, 2, 1, 3);
        });
        CHECKS.sentence("9: a 0 to 9", () -> {
            made(0, 1, 2, 0, 0);
            made(0, 1, 2, 0, 9);
        });
        CHECKS.sentence("9: each STRIP has COLOUR 0 at first, also where another BAND was", () -> {
            DownTheMiddle x = scene();
            x.goes();
            x.band(0, 0, 12, 0, 0);
            for (int i = 0; i < 12; i++) {
                CHECKS.due("bandOf(1, " + (10 + i) + ")", x.bandOf(1, 10 + i), 0);
            }
        });
        CHECKS.sentence("9: the last that there is room for", () -> {
            DownTheMiddle x = full();
            x.goes();
            CHECKS.due("band(0, 0, 1, 0, 0)", x.band(0, 0, 1, 0, 0), 5);
        });
    }

    private static void refused(int kind, int twists, int strips, int hand, int a, int number) {
        String call = "band(" + kind + ", " + twists + ", " + strips + ", " + hand + ", " + a + ")";
        CHECKS.refused(BandsTest::scene, call, x -> x.band(kind, twists, strips, hand, a), number);
    }

    private static void refusedFull(int kind, int strips, int number) {
        CHECKS.refused(BandsTest::full, "band(" + kind + ", 0, " + strips + ", 0, 0) when 6 are there",
                x -> x.band(kind, 0, strips, 0, 0), number);
    }

    private static void bandRefusals() {
        CHECKS.sentence("9: -1 KIND", () -> {
            refused(-1, 0, 1, 0, 0, 1);
            refused(7, 0, 1, 0, 0, 1);
            refused(MIN, 0, 1, 0, 0, 1);
            refused(MAX, 0, 1, 0, 0, 1);
        });
        CHECKS.sentence("9: -6 TWISTS", () -> {
            refused(0, -1, 1, 0, 0, 6);
            refused(0, 10000, 1, 0, 0, 6);
            refused(0, MIN, 1, 0, 0, 6);
            refused(0, MAX, 1, 0, 0, 6);
        });
        CHECKS.sentence("9: -6 STRIPS", () -> {
            refused(0, 0, 0, 0, 0, 6);
            refused(0, 0, 13, 0, 0, 6);
            refused(0, 0, -1, 0, 0, 6);
            refused(0, 0, MIN, 0, 0, 6);
            refused(0, 0, MAX, 0, 0, 6);
        });
        CHECKS.sentence("9: -6 HAND", () -> {
            refused(0, 0, 1, -1, 0, 6);
            refused(0, 0, 1, 2, 0, 6);
            refused(0, 0, 1, MIN, 0, 6);
            refused(0, 0, 1, MAX, 0, 6);
        });
        CHECKS.sentence("9: -6 a", () -> {
            refused(0, 0, 1, 0, -1, 6);
            refused(0, 0, 1, 0, 10, 6);
            refused(0, 0, 1, 0, MIN, 6);
            refused(0, 0, 1, 0, MAX, 6);
        });
        CHECKS.sentence("9: -7 a seventh", () -> refusedFull(0, 1, 7));
        CHECKS.sentence("9: -1 before -6", () -> {
            refused(7, -1, 1, 0, 0, 1);
            refused(7, 0, 0, 0, 0, 1);
            refused(-1, 0, 1, 2, 0, 1);
            refused(-1, 0, 1, 0, 10, 1);
        });
        CHECKS.sentence("9: -1 before -7", () -> refusedFull(7, 1, 1));
        CHECKS.sentence("9: -6 before -7", () -> refusedFull(0, 13, 6));
        CHECKS.sentence("9: -1 before -6 and -7", () -> refusedFull(-1, 0, 1));
    }

    private static void bandOfRefused(int band, int what) {
        CHECKS.refused(BandsTest::scene, "bandOf(" + band + ", " + what + ")", x -> x.bandOf(band, what), 5);
    }

    private static void bandOf() {
        CHECKS.sentence("10: 0 KIND, 1 TWISTS, 2 STRIPS, 3 HAND, 4 a", () -> {
            bandIs(scene(), 0, 2, 34, 3, 1, 7);
            bandIs(scene(), 1, 6, 9999, 12, 0, 9);
        });
        CHECKS.sentence("10: 10 and a STRIP: its COLOUR", () -> {
            DownTheMiddle x = scene();
            CHECKS.due("bandOf(0, 10)", x.bandOf(0, 10), 0);
            CHECKS.due("bandOf(0, 12)", x.bandOf(0, 12), 4);
            CHECKS.due("bandOf(1, 10)", x.bandOf(1, 10), 0);
            CHECKS.due("bandOf(1, 21)", x.bandOf(1, 21), 7);
        });
        CHECKS.sentence("10: -5 no such BAND", () -> {
            bandOfRefused(-1, 0);
            bandOfRefused(2, 0);
            bandOfRefused(2, 10);
            bandOfRefused(MIN, 1);
            bandOfRefused(MAX, 1);
        });
        CHECKS.sentence("10: -5 another what", () -> {
            bandOfRefused(0, -1);
            bandOfRefused(0, 5);
            bandOfRefused(0, 9);
            bandOfRefused(0, MIN);
            bandOfRefused(0, MAX);
        });
        CHECKS.sentence("10: -5 the COLOUR of a STRIP that isn't there", () -> {
            bandOfRefused(0, 13);
            bandOfRefused(0, 21);
            bandOfRefused(1, 22);
        });
        CHECKS.sentence("10: -5 is counted once where neither is there", () -> bandOfRefused(2, 9));
    }

    private static void twistRefused(int band, int v, int number) {
        CHECKS.refused(BandsTest::scene, "twist(" + band + ", " + v + ")", x -> x.twist(band, v), number);
    }

    private static void twist() {
        CHECKS.sentence("11: TWISTS of a BAND become v: what they were", () -> {
            DownTheMiddle x = scene();
            CHECKS.due("twist(0, 5)", x.twist(0, 5), 34);
            bandIs(x, 0, 2, 5, 3, 1, 7);
            bandIs(x, 1, 6, 9999, 12, 0, 9);
        });
        CHECKS.sentence("11: TWISTS 0 to 9999", () -> {
            DownTheMiddle x = scene();
            CHECKS.due("twist(0, 9999)", x.twist(0, 9999), 34);
            CHECKS.due("twist(0, 0)", x.twist(0, 0), 9999);
            CHECKS.due("bandOf(0, 1)", x.bandOf(0, 1), 0);
        });
        CHECKS.sentence("11: -1 no such BAND", () -> {
            twistRefused(-1, 0, 1);
            twistRefused(2, 0, 1);
            twistRefused(MIN, 0, 1);
            twistRefused(MAX, 0, 1);
        });
        CHECKS.sentence("11: -6 TWISTS that may not be", () -> {
            twistRefused(0, -1, 6);
            twistRefused(0, 10000, 6);
            twistRefused(1, MIN, 6);
            twistRefused(1, MAX, 6);
        });
        CHECKS.sentence("11: -1 before -6", () -> twistRefused(2, -1, 1));
    }

    private static void turn() {
        CHECKS.sentence("12: HAND of a BAND becomes the other: what it is", () -> {
            DownTheMiddle x = scene();
            CHECKS.due("turn(0)", x.turn(0), 0);
            bandIs(x, 0, 2, 34, 3, 0, 7);
            CHECKS.due("turn(0)", x.turn(0), 1);
            bandIs(x, 0, 2, 34, 3, 1, 7);
            CHECKS.due("turn(1)", x.turn(1), 1);
            bandIs(x, 1, 6, 9999, 12, 1, 9);
        });
        CHECKS.sentence("12: -1 no such BAND", () -> {
            for (int band : new int[] {-1, 2, 6, MIN, MAX}) {
                CHECKS.refused(BandsTest::scene, "turn(" + band + ")", x -> x.turn(band), 1);
            }
        });
    }

    private static void paintRefused(int band, int strip, int colour, int number) {
        CHECKS.refused(BandsTest::scene, "paint(" + band + ", " + strip + ", " + colour + ")",
                x -> x.paint(band, strip, colour), number);
    }

    private static void paint() {
        CHECKS.sentence("13: a STRIP gets a COLOUR: what it was", () -> {
            DownTheMiddle x = scene();
            CHECKS.due("paint(0, 2, 1)", x.paint(0, 2, 1), 4);
            CHECKS.due("paint(0, 2, 3)", x.paint(0, 2, 3), 1);
            CHECKS.due("bandOf(0, 12)", x.bandOf(0, 12), 3);
            CHECKS.due("bandOf(0, 11)", x.bandOf(0, 11), 0);
            CHECKS.due("bandOf(1, 12)", x.bandOf(1, 12), 0);
        });
        CHECKS.sentence("13: the first and the last STRIP", () -> {
            DownTheMiddle x = scene();
            CHECKS.due("paint(0, 0, 5)", x.paint(0, 0, 5), 0);
            CHECKS.due("bandOf(0, 10)", x.bandOf(0, 10), 5);
            CHECKS.due("paint(1, 11, 5)", x.paint(1, 11, 5), 7);
            CHECKS.due("bandOf(1, 21)", x.bandOf(1, 21), 5);
        });
        CHECKS.sentence("13: COLOUR 0 to 7", () -> {
            DownTheMiddle x = scene();
            CHECKS.due("paint(0, 2, 7)", x.paint(0, 2, 7), 4);
            CHECKS.due("paint(0, 2, 0)", x.paint(0, 2, 0), 7);
            CHECKS.due("bandOf(0, 12)", x.bandOf(0, 12), 0);
        });
        CHECKS.sentence("13: -1 no such BAND", () -> {
            paintRefused(-1, 0, 0, 1);
            paintRefused(2, 0, 0, 1);
            paintRefused(MIN, 0, 0, 1);
            paintRefused(MAX, 0, 0, 1);
        });
        CHECKS.sentence("13: -1 no such STRIP", () -> {
            paintRefused(0, -1, 1, 1);
            paintRefused(0, 3, 1, 1);
            paintRefused(1, 12, 1, 1);
            paintRefused(0, MIN, 1, 1);
            paintRefused(0, MAX, 1, 1);
        });
        CHECKS.sentence("13: -6 no such COLOUR", () -> {
            paintRefused(0, 2, -1, 6);
            paintRefused(0, 2, 8, 6);
            paintRefused(0, 0, MIN, 6);
            paintRefused(0, 0, MAX, 6);
        });
        CHECKS.sentence("13: -1 before -6", () -> {
            paintRefused(2, 0, 8, 1);
            paintRefused(0, 3, -1, 1);
        });
    }
}
