/** Promises 28 to 34: laws, told cuttings, bands that fit, and bands across each other. */
public final class LawsTest {
    private static final Checks CHECKS = new Checks("LawsTest");

    public static void main(String[] args) {
        lawBesideBands();
        lawOfGreatNumbers();
        lawRefusals();
        judge();
        fits();
        toldRefusals();
        make();
        leastTwist();
        most();
        cross();
        crossRefusals();
        CHECKS.finish();
    }

    private static void lawBesideBands() {
        for (int h = 0; h < 40; h++) {
            for (int n = 1; n <= 12; n++) {
                DownTheMiddle x = Checks.withBand(0, h, n, 0, 0);
                int greatest = 0;
                for (int p = 0; p < x.pieces(0); p++) {
                    greatest = Math.max(greatest, x.pieceOf(0, p, 0));
                }
                String of = "law(" + h + ", " + n + ", ";
                CHECKS.due(of + "0)", x.law(h, n, 0), x.pieces(0));
                CHECKS.due(of + "1)", x.law(h, n, 1), greatest);
                CHECKS.due(of + "2)", x.law(h, n, 2), x.pieceOf(0, 0, 2));
                CHECKS.due(of + "3)", x.law(h, n, 3), x.pieces(0) < 2 ? 0 : Math.abs(x.hooks(0, 0, 1)));
            }
        }
    }

    private static void lawIs(int h, int n, long... want) {
        DownTheMiddle x = new DownTheMiddle();
        for (int what = 0; what < 4; what++) {
            CHECKS.due("law(" + h + ", " + n + ", " + what + ")", x.law(h, n, what), want[what]);
        }
    }

    private static void lawOfGreatNumbers() {
        lawIs(1000000000, 1000000000, 1000000000, 1, 1000000000, 500000000);
        lawIs(999999999, 1000000000, 500000000, 2, 2000000000, 1999999998);
        lawIs(999999999, 999999999, 500000000, 2, 2000000000, 1999999998);
        lawIs(999999999, 3, 2, 2, 2000000000, 999999999);
        lawIs(999999999, 2, 1, 2, 2000000000, 0);
        lawIs(999999999, 1, 1, 1, 999999999, 0);
        lawIs(0, 1000000000, 1000000000, 1, 0, 0);
    }

    private static void lawRefusals() {
        DownTheMiddle x = new DownTheMiddle();
        CHECKS.refused(x, "another what", () -> x.law(-1, 0, 4), 5);
        CHECKS.refused(x, "another what", () -> x.law(0, 1, -1), 5);
        CHECKS.refused(x, "h below 0", () -> x.law(-1, 1, 0), 6);
        CHECKS.refused(x, "n below 1", () -> x.law(0, 0, 0), 6);
        CHECKS.refused(x, "h too great", () -> x.law(1000000001, 1, 0), 6);
        CHECKS.refused(x, "n too great", () -> x.law(0, 1000000001, 0), 6);
    }

    private static void judge() {
        DownTheMiddle x = Checks.withBand(0, 3, 5, 0, 0);
        Checks.numbers(x, 0, 0, 2, 2, 1, 0, 7);
        CHECKS.due("as it is", x.judge(0, 0, 3), -1);
        CHECKS.due("one besides", x.judge(0, 0, 2), 2);
        CHECKS.due("all besides", x.judge(0, 0, 0), 0);
        CHECKS.due("no such piece", x.judge(0, 0, 5), 3);
        x.set(0, 0, 1);
        CHECKS.due("the first", x.judge(0, 0, 5), 0);
        x.set(0, 0, 2);
        x.set(0, 1, 1);
        CHECKS.due("the second", x.judge(0, 0, 3), 1);
        Checks.numbers(x, 0, 3, (5L << 32) + 2, 2, 1);
        CHECKS.due("of longs the lowest 32 bits", x.judge(0, 0, 3), -1);
        CHECKS.due("a cutting is nothing changed", x.bandOf(0, 1), 3);
    }

    private static void fits() {
        DownTheMiddle x = Checks.withBand(0, 9999, 3, 0, 0);
        Checks.numbers(x, 0, 2, 3, 8, 40, 40, 40);
        CHECKS.due("3 TWISTS, in another order", x.fits(0, 0, 2), 8);
        CHECKS.due("too many", x.fits(0, 0, 3), 0);
        CHECKS.due("too few", x.fits(0, 0, 1), 0);
        CHECKS.due("none told", x.fits(0, 0, 0), 0);
        x.copy(0, 0, 2, 0, 3);
        CHECKS.due("40 TWISTS", x.fits(0, 0, 3), 1L << 40);
        x.set(0, 2, 41);
        CHECKS.due("not alike", x.fits(0, 0, 3), 0);
        Checks.numbers(x, 0, 2, 8, 8);
        CHECKS.due("8 for 3", x.fits(0, 0, 2), 0);
        Checks.numbers(x, 0, 2, 42, 42, 42);
        CHECKS.due("42 TWISTS are not tried", x.fits(0, 0, 3), 0);
        Checks.numbers(x, 0, 3, (1L << 32) + 8, (9L << 32) + 3);
        CHECKS.due("of longs the lowest 32 bits", x.fits(0, 0, 2), 8);
        CHECKS.due("TWISTS stay", x.bandOf(0, 1), 9999);
        DownTheMiddle y = Checks.withBand(4, 0, 2, 0, 0);
        Checks.numbers(y, 0, 0, 39, 39);
        CHECKS.due("39 TWISTS of PLAIN", y.fits(0, 0, 2), 1L << 39);
        Checks.numbers(y, 0, 0, 41, 41);
        CHECKS.due("41 TWISTS are not tried", y.fits(0, 0, 2), 0);
    }

    private static void toldRefusals() {
        DownTheMiddle x = Checks.withBand(0, 3, 5, 0, 0);
        x.row(0, 0, 5);
        x.show(1, 0);
        CHECKS.refused(x, "judge, no band", () -> x.judge(1, 1, -1), 1, 10);
        CHECKS.refused(x, "judge, no band", () -> x.judge(-1, 0, 0), 1, 10);
        CHECKS.refused(x, "judge, no shelf", () -> x.judge(0, 8, -1), 1, 10);
        CHECKS.refused(x, "judge, no shelf", () -> x.judge(0, -1, 0), 1, 10);
        CHECKS.refused(x, "judge, a band", () -> x.judge(0, 1, -1), 2, 10);
        CHECKS.refused(x, "judge, nothing", () -> x.judge(0, 2, -1), 3, 10);
        CHECKS.refused(x, "judge, n below 0", () -> x.judge(0, 0, -1), 4, 10);
        CHECKS.refused(x, "judge, fewer elements", () -> x.judge(0, 0, 6), 5, 10);
        CHECKS.refused(x, "fits, no band", () -> x.fits(1, 1, -1), 1);
        CHECKS.refused(x, "fits, no band", () -> x.fits(-1, 0, 0), 1);
        CHECKS.refused(x, "fits, no shelf", () -> x.fits(0, 8, -1), 1);
        CHECKS.refused(x, "fits, no shelf", () -> x.fits(0, -1, 0), 1);
        CHECKS.refused(x, "fits, a band", () -> x.fits(0, 1, -1), 2);
        CHECKS.refused(x, "fits, nothing", () -> x.fits(0, 2, -1), 3);
        CHECKS.refused(x, "fits, n below 0", () -> x.fits(0, 0, -1), 4);
        CHECKS.refused(x, "fits, fewer elements", () -> x.fits(0, 0, 6), 5);
    }

    private static void make() {
        DownTheMiddle x = new DownTheMiddle();
        CHECKS.due("make(1, 3)", x.make(1, 3), 103);
        CHECKS.due("make(1, 40)", x.make(1, 40), 140);
        CHECKS.due("41 TWISTS are not tried", x.make(1, 41), -1);
        CHECKS.due("two strips of 21 TWISTS", x.make(1, 44), 221);
        CHECKS.due("two strips of 39 TWISTS", x.make(1, 80), 239);
        CHECKS.due("more than may be", x.make(1, 82), -1);
        CHECKS.due("make(2, 6)", x.make(2, 6), 206);
        CHECKS.due("three strips of 39 TWISTS", x.make(2, 80), 339);
        CHECKS.due("no odd longest", x.make(2, 7), -1);
        CHECKS.due("make(12, 40)", x.make(12, 40), 1240);
        CHECKS.due("make(7, 44)", x.make(7, 44), -1);
        CHECKS.due("make(6, 44)", x.make(6, 44), 1121);
        CHECKS.due("the greatest", x.make(1, Integer.MAX_VALUE), -1);
        CHECKS.refused(x, "make(0, 0)", () -> x.make(0, 0), 6, 10);
        CHECKS.refused(x, "make(13, 0)", () -> x.make(13, 0), 6, 10);
        CHECKS.refused(x, "make(1, -1)", () -> x.make(1, -1), 6, 10);
    }

    private static void leastTwist() {
        DownTheMiddle x = Checks.withBand(0, 9999, 5, 0, 0);
        CHECKS.due("as it is", x.leastTwist(0, 3), 0);
        CHECKS.due("above 9999", x.leastTwist(0, 5), 1);
        CHECKS.due("never", x.leastTwist(0, 4), -1);
        CHECKS.due("TWISTS stay", x.bandOf(0, 1), 9999);
        CHECKS.refused(x, "no band", () -> x.leastTwist(1, 0), 1, 10);
        CHECKS.refused(x, "no band", () -> x.leastTwist(-1, 1), 1, 10);
        CHECKS.refused(x, "k 0", () -> x.leastTwist(0, 0), 6, 10);
        CHECKS.refused(x, "k 13", () -> x.leastTwist(0, 13), 6, 10);
    }

    private static void most() {
        CHECKS.due("no hooks at all", Checks.withBand(0, 0, 5, 0, 0).most(0), 1);
        CHECKS.due("two twists", Checks.withBand(0, 2, 5, 0, 0).most(0), 12);
        CHECKS.due("DOUBLE", Checks.withBand(3, 2, 6, 1, 5).most(0), 10);
        DownTheMiddle x = Checks.withBand(4, 1, 5, 0, 0);
        CHECKS.due("PLAIN and left, once", x.most(0), 1);
        x.turn(0);
        CHECKS.due("PLAIN and right, once", x.most(0), 12);
        CHECKS.due("STRIPS stay", x.bandOf(0, 2), 5);
        CHECKS.refused(x, "no band", () -> x.most(1), 1);
        CHECKS.refused(x, "no band", () -> x.most(-1), 1);
    }

    private static void cross() {
        for (int first = 0; first < 4; first++) {
            for (int second = 0; second < 4; second++) {
                for (int hands = 0; hands < 4; hands++) {
                    DownTheMiddle x = Checks.withBand(4, first, 9, hands & 1, 0);
                    x.band(6, second, 2, hands >> 1, 3);
                    boolean two = first % 2 == 1 && second % 2 == 1;
                    String of = first + " across " + second + ", hands " + hands;
                    CHECKS.due("pieces of " + of, x.cross(0, 1, 0), two ? 2 : 1);
                    CHECKS.due("hang, of " + of, x.cross(1, 0, 1), two && (hands == 1 || hands == 2) ? 1 : 0);
                }
            }
        }
    }

    private static void crossRefusals() {
        DownTheMiddle x = Checks.withBand(0, 1, 1, 0, 0);
        x.band(0, 1, 1, 1, 0);
        CHECKS.refused(x, "no band", () -> x.cross(2, 2, 2), 1);
        CHECKS.refused(x, "no band", () -> x.cross(-1, 0, 0), 1);
        CHECKS.refused(x, "no other", () -> x.cross(0, 2, 0), 1);
        CHECKS.refused(x, "no other", () -> x.cross(0, -1, 0), 1);
        CHECKS.refused(x, "no what, the same", () -> x.cross(0, 0, 2), 5);
        CHECKS.refused(x, "no what", () -> x.cross(0, 1, -1), 5);
        CHECKS.refused(x, "the same", () -> x.cross(1, 1, 1), 6);
    }
}
