/** Promises 35 to 38 and 41 to 43: cuts in truth, draws, bands that go, the seed, the image, status. */
public final class TruthTest {
    private static final Checks CHECKS = new Checks("TruthTest");

    public static void main(String[] args) {
        cut();
        cutRefusals();
        draws();
        drawsUntilThereIsNoRoom();
        goes();
        seed();
        image();
        imageIsNoBandItself();
        whatTheImageHasNot();
        restoreRefused();
        status();
        CHECKS.finish();
    }

    private static void cut() {
        DownTheMiddle x = Checks.withBand(0, 3, 5, 1, 4);
        x.paint(0, 1, 6);
        CHECKS.due("cut of a long piece", x.cut(0, 1), 8);
        CHECKS.due("TWISTS", x.bandOf(0, 1), 8);
        CHECKS.due("STRIPS", x.bandOf(0, 2), 5);
        CHECKS.due("HAND", x.bandOf(0, 3), 1);
        CHECKS.due("a", x.bandOf(0, 4), 4);
        CHECKS.due("COLOUR", x.bandOf(0, 11), 6);
        CHECKS.due("SNIPS", x.status(2), 4);
        CHECKS.due("cut of a short one", x.cut(0, 4), 8);
        CHECKS.due("SNIPS", x.status(2), 8);
        x.band(0, 9, 1, 0, 0);
        CHECKS.due("cut along no line", x.cut(1, 0), 9);
        CHECKS.due("SNIPS", x.status(2), 8);
    }

    private static void cutRefusals() {
        DownTheMiddle x = Checks.withBand(0, 4999, 2, 0, 0);
        CHECKS.refused(x, "10000 TURNS", () -> x.cut(0, 0), 7);
        CHECKS.due("TWISTS", x.bandOf(0, 1), 4999);
        CHECKS.due("SNIPS", x.status(2), 0);
        x.twist(0, 4997);
        CHECKS.due("9996 TURNS", x.cut(0, 0), 9996);
        x.band(0, 9999, 1, 0, 0);
        CHECKS.due("9999 TURNS", x.cut(1, 0), 9999);
        CHECKS.refused(x, "no band", () -> x.cut(2, 0), 1);
        CHECKS.refused(x, "no band", () -> x.cut(-1, 0), 1);
        CHECKS.refused(x, "no piece", () -> x.cut(0, 2), 1);
        CHECKS.refused(x, "no piece", () -> x.cut(0, -1), 1);
    }

    /** A seed by the words of the document, in longs. */
    private static final class Draws {
        long seed;

        int below(int n) {
            seed = (seed * 1103515245L + 12345L) & 0xFFFFFFFFL;
            return (int) (seed / 65536 % n);
        }
    }

    private static void bandsAreDrawn(DownTheMiddle x, Draws draws, int from, int to) {
        for (int b = from; b < to; b++) {
            CHECKS.due("KIND of " + b, x.bandOf(b, 0), draws.below(7));
            CHECKS.due("TWISTS of " + b, x.bandOf(b, 1), draws.below(9));
            CHECKS.due("STRIPS of " + b, x.bandOf(b, 2), draws.below(12) + 1);
            CHECKS.due("HAND of " + b, x.bandOf(b, 3), draws.below(2));
            CHECKS.due("a of " + b, x.bandOf(b, 4), draws.below(10));
        }
        CHECKS.due("SEED", x.status(3), (int) draws.seed);
    }

    private static void draws() {
        int[] seeds = {1, 0, -1, 9, Integer.MIN_VALUE, Integer.MAX_VALUE, 123456789, -987654321};
        for (int seed : seeds) {
            DownTheMiddle x = new DownTheMiddle();
            x.seed(seed);
            Draws draws = new Draws();
            draws.seed = seed & 0xFFFFFFFFL;
            CHECKS.due("draws(1)", x.draws(1), 1);
            bandsAreDrawn(x, draws, 0, 1);
            CHECKS.due("draws(5)", x.draws(5), 5);
            bandsAreDrawn(x, draws, 1, 6);
        }
    }

    private static void drawsUntilThereIsNoRoom() {
        DownTheMiddle x = Checks.withBand(0, 0, 12, 0, 0);
        x.paint(0, 5, 3);
        x.goes();
        CHECKS.due("draws(6)", x.draws(6), 6);
        for (int i = 10; i < 10 + x.bandOf(0, 2); i++) {
            CHECKS.due("COLOUR", x.bandOf(0, i), 0);
        }
        int seed = x.status(3);
        CHECKS.due("no room", x.draws(6), 0);
        CHECKS.due("nothing is drawn then", x.status(3), seed);
        x.goes();
        CHECKS.due("room for one", x.draws(2), 1);
        CHECKS.due("how many", x.status(0), 6);
        CHECKS.refused(x, "draws(0)", () -> x.draws(0), 6);
        CHECKS.refused(x, "draws(7)", () -> x.draws(7), 6);
        CHECKS.refused(x, "draws(-1)", () -> x.draws(-1), 6);
    }

    private static void goes() {
        DownTheMiddle x = Checks.withBand(0, 0, 1, 0, 0);
        x.band(1, 7, 2, 0, 0);
        x.show(0, 0);
        x.show(1, 1);
        x.show(7, 1);
        x.row(2, 1, 1);
        CHECKS.due("goes", x.goes(), 1);
        CHECKS.due("how many", x.status(0), 1);
        CHECKS.due("a shelf with another", x.holds(0), 0);
        CHECKS.due("a shelf with it", x.holds(1), -1);
        CHECKS.due("a shelf with it", x.holds(7), -1);
        CHECKS.due("a shelf with a row", x.holds(2), 101);
        CHECKS.due("no such band", x.on(1, 0), -1);
        CHECKS.due("its number is free", x.band(2, 3, 4, 1, 5), 1);
        CHECKS.due("shelves stay as they are", x.holds(1), -1);
        CHECKS.due("goes", x.goes(), 1);
        CHECKS.due("goes", x.goes(), 0);
        CHECKS.refused(x, "goes", () -> x.goes(), 6);
    }

    private static void seed() {
        DownTheMiddle x = new DownTheMiddle();
        CHECKS.due("seed", x.seed(-5), 1);
        CHECKS.due("seed", x.seed(Integer.MIN_VALUE), -5);
        CHECKS.due("status(3)", x.status(3), Integer.MIN_VALUE);
    }

    private static void image() {
        DownTheMiddle x = Checks.withBand(0, 3, 5, 1, 4);
        x.band(5, 6, 7, 0, 8);
        x.paint(0, 4, 3);
        x.cut(0, 0);
        x.seed(77);
        CHECKS.due("image", x.image(), 2);
        x.goes();
        x.goes();
        x.draws(6);
        x.cut(0, 0);
        for (int b = 0; b < 6; b++) {
            x.show(b, b);
        }
        x.row(6, 3, 2);
        CHECKS.due("restore", x.restore(), 2);
        int[][] due = {{0, 8, 5, 1, 4}, {5, 6, 7, 0, 8}};
        for (int b = 0; b < 2; b++) {
            for (int what = 0; what < 5; what++) {
                CHECKS.due("bandOf " + b + " " + what, x.bandOf(b, what), due[b][what]);
            }
        }
        CHECKS.due("COLOUR", x.bandOf(0, 14), 3);
        CHECKS.due("COLOUR of another", x.bandOf(1, 14), 0);
        CHECKS.due("SEED", x.status(3), 77);
        CHECKS.due("SNIPS", x.status(2), 4);
        CHECKS.due("BANDS", x.status(0), 2);
        for (int s = 0; s < 8; s++) {
            int holds = s < 2 ? s : s == 6 ? 103 : -1;
            CHECKS.due("holds(" + s + ")", x.holds(s), holds);
        }
    }

    private static void imageIsNoBandItself() {
        DownTheMiddle x = Checks.withBand(0, 3, 5, 1, 4);
        x.image();
        x.twist(0, 50);
        x.turn(0);
        x.paint(0, 0, 1);
        x.restore();
        x.twist(0, 60);
        x.paint(0, 0, 2);
        CHECKS.due("restore again", x.restore(), 1);
        CHECKS.due("TWISTS", x.bandOf(0, 1), 3);
        CHECKS.due("HAND", x.bandOf(0, 3), 1);
        CHECKS.due("COLOUR", x.bandOf(0, 10), 0);
        x.band(1, 1, 1, 1, 1);
        CHECKS.due("another image", x.image(), 2);
        x.goes();
        x.goes();
        CHECKS.due("restore", x.restore(), 2);
        CHECKS.due("KIND", x.bandOf(1, 0), 1);
    }

    private static void whatTheImageHasNot() {
        DownTheMiddle x = Checks.withBand(0, 3, 5, 1, 4);
        x.image();
        x.turn(9);
        Checks.table(x, "left 9");
        x.act(0, 2, 0);
        x.restore();
        CHECKS.due("REFUSALS -1", x.status(11), 1);
        CHECKS.due("REFUSALS -6", x.status(16), 1);
        CHECKS.due("the FAULT", x.fault(), 5);
        CHECKS.due("bodies", x.status(4), 4);
        CHECKS.due("THE TRACE", x.trace(0), 12);
        CHECKS.due("a row", x.element(7, 0), 'l');
    }

    private static void restoreRefused() {
        DownTheMiddle x = new DownTheMiddle();
        CHECKS.refused(x, "no image", () -> x.restore(), 6);
        CHECKS.due("an image of none", x.image(), 0);
        x.draws(3);
        x.show(0, 2);
        CHECKS.due("restore of none", x.restore(), 0);
        CHECKS.due("BANDS", x.status(0), 0);
        CHECKS.due("holds", x.holds(0), -1);
    }

    private static void status() {
        DownTheMiddle x = Checks.withBand(0, 3, 5, 1, 4);
        x.band(0, 2, 5, 1, 4);
        CHECKS.due("BANDS", x.status(0), 2);
        CHECKS.due("PIECES", x.status(1), 8);
        x.cut(0, 0);
        x.cut(1, 0);
        CHECKS.due("SNIPS", x.status(2), 8);
        x.act(1, 2, 3);
        CHECKS.due("bodies", x.status(4), 4);
        x.set(8, 0, 0);
        for (int k = 0; k < 7; k++) {
            x.law(0, 1, 9);
        }
        CHECKS.due("REFUSALS -1", x.status(11), 1);
        CHECKS.due("REFUSALS -5", x.status(15), 7);
        int[] noSuch = {-1, 5, 9, 10, 18, Integer.MIN_VALUE, Integer.MAX_VALUE};
        for (int what : noSuch) {
            CHECKS.due("status(" + what + ")", x.status(what), -1);
        }
        CHECKS.due("another what is not refused", x.status(15), 7);
    }
}
