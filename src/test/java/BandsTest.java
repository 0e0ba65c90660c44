/** Promises 9 to 13: bands, what is told of them, and what is changed in them. */
public final class BandsTest {
    private static final Checks CHECKS = new Checks("BandsTest");

    public static void main(String[] args) {
        band();
        bandRefusals();
        bandOf();
        twist();
        turn();
        paint();
        CHECKS.finish();
    }

    private static void band() {
        DownTheMiddle x = new DownTheMiddle();
        CHECKS.due("the least of all", x.band(0, 0, 1, 0, 0), 0);
        CHECKS.due("the most of all", x.band(6, 9999, 12, 1, 9), 1);
        for (int b = 2; b < 6; b++) {
            CHECKS.due("band", x.band(b, b, b, b % 2, b), b);
        }
        CHECKS.due("how many", x.status(0), 6);
        bandIs(x, 0, 0, 0, 1, 0, 0);
        bandIs(x, 1, 6, 9999, 12, 1, 9);
        bandIs(x, 5, 5, 5, 5, 1, 5);
        CHECKS.refused(x, "a seventh", () -> x.band(0, 0, 1, 0, 0), 7);
        CHECKS.refused(x, "a wrong seventh", () -> x.band(0, 0, 0, 0, 0), 6);
        CHECKS.due("how many", x.status(0), 6);
    }

    private static void bandIs(DownTheMiddle x, int band, int... want) {
        for (int what = 0; what < 5; what++) {
            CHECKS.due("bandOf(" + band + ", " + what + ")", x.bandOf(band, what), want[what]);
        }
    }

    private static void bandRefusals() {
        DownTheMiddle x = new DownTheMiddle();
        CHECKS.refused(x, "KIND 7, all else wrong", () -> x.band(7, -1, 0, 2, 10), 1);
        CHECKS.refused(x, "KIND -1", () -> x.band(-1, 0, 1, 0, 0), 1);
        CHECKS.refused(x, "TWISTS -1", () -> x.band(0, -1, 1, 0, 0), 6);
        CHECKS.refused(x, "TWISTS 10000", () -> x.band(0, 10000, 1, 0, 0), 6);
        CHECKS.refused(x, "STRIPS 0", () -> x.band(0, 0, 0, 0, 0), 6);
        CHECKS.refused(x, "STRIPS 13", () -> x.band(0, 0, 13, 0, 0), 6);
        CHECKS.refused(x, "HAND -1", () -> x.band(0, 0, 1, -1, 0), 6);
        CHECKS.refused(x, "HAND 2", () -> x.band(0, 0, 1, 2, 0), 6);
        CHECKS.refused(x, "a -1", () -> x.band(0, 0, 1, 0, -1), 6);
        CHECKS.refused(x, "a 10", () -> x.band(0, 0, 1, 0, 10), 6);
        CHECKS.due("none was made", x.status(0), 0);
    }

    private static void bandOf() {
        DownTheMiddle x = Checks.withBand(2, 34, 3, 1, 7);
        bandIs(x, 0, 2, 34, 3, 1, 7);
        for (int what = 10; what < 13; what++) {
            CHECKS.due("a colour at first", x.bandOf(0, what), 0);
        }
        int[] noSuch = {-1, 5, 9, 13, 21, 22, Integer.MIN_VALUE, Integer.MAX_VALUE};
        for (int what : noSuch) {
            CHECKS.refused(x, "bandOf(0, " + what + ")", () -> x.bandOf(0, what), 5);
        }
        CHECKS.refused(x, "bandOf(1, 0)", () -> x.bandOf(1, 0), 5);
        CHECKS.refused(x, "bandOf(-1, 0)", () -> x.bandOf(-1, 0), 5);
    }

    private static void twist() {
        DownTheMiddle x = Checks.withBand(0, 34, 3, 1, 7);
        CHECKS.due("twist", x.twist(0, 9999), 34);
        CHECKS.due("twist", x.twist(0, 0), 9999);
        CHECKS.due("TWISTS", x.bandOf(0, 1), 0);
        CHECKS.refused(x, "no such band", () -> x.twist(1, -1), 1);
        CHECKS.refused(x, "no such band", () -> x.twist(-1, 0), 1);
        CHECKS.refused(x, "below 0", () -> x.twist(0, -1), 6);
        CHECKS.refused(x, "above 9999", () -> x.twist(0, 10000), 6);
        CHECKS.due("TWISTS", x.bandOf(0, 1), 0);
    }

    private static void turn() {
        DownTheMiddle x = Checks.withBand(0, 34, 3, 1, 7);
        CHECKS.due("turn", x.turn(0), 0);
        CHECKS.due("HAND", x.bandOf(0, 3), 0);
        CHECKS.due("turn", x.turn(0), 1);
        CHECKS.due("HAND", x.bandOf(0, 3), 1);
        CHECKS.refused(x, "no such band", () -> x.turn(1), 1);
        CHECKS.refused(x, "no such band", () -> x.turn(-1), 1);
    }

    private static void paint() {
        DownTheMiddle x = Checks.withBand(0, 34, 3, 1, 7);
        CHECKS.due("paint", x.paint(0, 2, 7), 0);
        CHECKS.due("paint", x.paint(0, 2, 4), 7);
        CHECKS.due("COLOUR", x.bandOf(0, 12), 4);
        CHECKS.due("the least colour", x.paint(0, 1, 0), 0);
        CHECKS.due("COLOUR of another", x.bandOf(0, 11), 0);
        CHECKS.refused(x, "no such band", () -> x.paint(1, 0, 8), 1);
        CHECKS.refused(x, "no such band", () -> x.paint(-1, 0, 0), 1);
        CHECKS.refused(x, "no such strip", () -> x.paint(0, 3, -1), 1);
        CHECKS.refused(x, "no such strip", () -> x.paint(0, -1, 0), 1);
        CHECKS.refused(x, "no such colour", () -> x.paint(0, 0, 8), 6);
        CHECKS.refused(x, "no such colour", () -> x.paint(0, 0, -1), 6);
        CHECKS.due("a refused colour", x.bandOf(0, 10), 0);
        x.goes();
        x.band(0, 34, 3, 1, 7);
        CHECKS.due("a new band in its place has no colour", x.bandOf(0, 12), 0);
    }
}
