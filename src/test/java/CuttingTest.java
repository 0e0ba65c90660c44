/** Promises 16 to 21: where strips go on, pieces, crossings, hooks. */
public final class CuttingTest {
    private static final Checks CHECKS = new Checks("CuttingTest");

    public static void main(String[] args) {
        on();
        pieces();
        pieceOf();
        pieceAt();
        crossings();
        hooks();
        CHECKS.finish();
    }

    private static void onIs(int kind, int twists, int strips, int a, int... want) {
        DownTheMiddle x = Checks.withBand(kind, twists, strips, 0, a);
        for (int i = 0; i < strips; i++) {
            CHECKS.due("on " + i + " of KIND " + kind + ", " + twists + " TWISTS", x.on(0, i), want[i]);
        }
    }

    private static void on() {
        onIs(0, 2, 4, 9, 0, 1, 2, 3);
        onIs(0, 3, 4, 9, 3, 2, 1, 0);
        onIs(1, 0, 4, 9, 1, 2, 3, 0);
        onIs(1, 1, 4, 9, 0, 3, 2, 1);
        onIs(2, 0, 5, 9, 1, 0, 3, 2, 4);
        onIs(2, 1, 5, 9, 4, 2, 3, 0, 1);
        onIs(3, 0, 5, 4, 3, 4, 0, 1, 2);
        onIs(3, 1, 5, 4, 0, 1, 2, 3, 4);
        onIs(4, 1, 4, 9, 0, 1, 2, 3);
        onIs(5, 0, 5, 9, 3, 4, 1, 2, 0);
        onIs(5, 1, 5, 9, 0, 2, 1, 4, 3);
        onIs(6, 1, 4, 9, 3, 1, 2, 0);
        onIs(6, 0, 1, 9, 0);
        DownTheMiddle x = Checks.withBand(0, 1, 3, 0, 0);
        CHECKS.refused(x, "on of no band", () -> x.on(1, 0), 1);
        CHECKS.refused(x, "on of no band", () -> x.on(-1, 0), 1);
        CHECKS.refused(x, "on of no strip", () -> x.on(0, 3), 1);
        CHECKS.refused(x, "on of no strip", () -> x.on(0, -1), 1);
    }

    private static void pieces() {
        CHECKS.due("even", Checks.withBand(0, 2, 12, 0, 0).pieces(0), 12);
        CHECKS.due("odd", Checks.withBand(0, 3, 12, 0, 0).pieces(0), 6);
        CHECKS.due("odd, with a middle", Checks.withBand(0, 3, 11, 0, 0).pieces(0), 6);
        CHECKS.due("one round", Checks.withBand(1, 0, 11, 0, 3).pieces(0), 1);
        CHECKS.due("three rounds", Checks.withBand(1, 0, 9, 0, 3).pieces(0), 3);
        DownTheMiddle x = new DownTheMiddle();
        CHECKS.refused(x, "pieces of no band", () -> x.pieces(0), 1);
        CHECKS.refused(x, "pieces of no band", () -> x.pieces(-1), 1);
    }

    private static void pieceOf() {
        // BAND, 3 TWISTS, 5 STRIPS: 0 and 4; 1 and 3; 2.
        int[][] due = {{2, 17, 8, 2}, {2, 10, 8, 2}, {1, 4, 3, 1}};
        DownTheMiddle x = Checks.withBand(0, 3, 5, 1, 0);
        for (int p = 0; p < 3; p++) {
            for (int what = 0; what < 4; what++) {
                CHECKS.due("pieceOf(0, " + p + ", " + what + ")", x.pieceOf(0, p, what), due[p][what]);
            }
        }
        DownTheMiddle longest = Checks.withBand(1, 9998, 12, 0, 1);
        CHECKS.due("the longest", longest.pieceOf(0, 0, 2), 9998 * 12 + 22);
        CHECKS.due("its strips", longest.pieceOf(0, 0, 1), 4095);
        CHECKS.refused(x, "no band, no what", () -> x.pieceOf(1, 0, 4), 1);
        CHECKS.refused(x, "no band", () -> x.pieceOf(-1, 0, 0), 1);
        CHECKS.refused(x, "no piece, no what", () -> x.pieceOf(0, 3, 4), 1);
        CHECKS.refused(x, "no piece", () -> x.pieceOf(0, -1, 0), 1);
        CHECKS.refused(x, "no what", () -> x.pieceOf(0, 0, 4), 5);
        CHECKS.refused(x, "no what", () -> x.pieceOf(0, 0, -1), 5);
    }

    private static void pieceAt() {
        int[] due = {0, 1, 2, 1, 0};
        DownTheMiddle x = Checks.withBand(0, 3, 5, 1, 0);
        for (int i = 0; i < 5; i++) {
            CHECKS.due("pieceAt(0, " + i + ")", x.pieceAt(0, i), due[i]);
        }
        CHECKS.refused(x, "no band", () -> x.pieceAt(1, 0), 1);
        CHECKS.refused(x, "no band", () -> x.pieceAt(-1, 0), 1);
        CHECKS.refused(x, "no strip", () -> x.pieceAt(0, 5), 1);
        CHECKS.refused(x, "no strip", () -> x.pieceAt(0, -1), 1);
    }

    private static void crossings() {
        CHECKS.due("left, odd, turned about", Checks.withBand(0, 3, 2, 0, 0).crossings(0, 0, 1), -3);
        CHECKS.due("right, odd, turned about", Checks.withBand(0, 3, 2, 1, 0).crossings(0, 0, 1), 3);
        CHECKS.due("left, odd, kept", Checks.withBand(4, 3, 2, 0, 0).crossings(0, 0, 1), -2);
        CHECKS.due("right, odd, kept", Checks.withBand(4, 3, 2, 1, 0).crossings(0, 0, 1), 4);
        CHECKS.due("left, even, kept", Checks.withBand(0, 4, 2, 0, 0).crossings(0, 0, 1), -4);
        CHECKS.due("left, even, turned about", Checks.withBand(2, 4, 2, 0, 0).crossings(0, 0, 1), -3);
        CHECKS.due("right, even, turned about", Checks.withBand(2, 4, 2, 1, 0).crossings(0, 0, 1), 5);
        CHECKS.due("the other way", Checks.withBand(2, 4, 2, 1, 0).crossings(0, 1, 0), 5);
        DownTheMiddle x = Checks.withBand(0, 3, 5, 1, 0);
        CHECKS.refused(x, "no band", () -> x.crossings(1, 0, 0), 1, 1000000);
        CHECKS.refused(x, "no band", () -> x.crossings(-1, 0, 1), 1, 1000000);
        CHECKS.refused(x, "no strip, the same", () -> x.crossings(0, 5, 5), 1, 1000000);
        CHECKS.refused(x, "no strip", () -> x.crossings(0, -1, 0), 1, 1000000);
        CHECKS.refused(x, "no other", () -> x.crossings(0, 0, 5), 1, 1000000);
        CHECKS.refused(x, "no other", () -> x.crossings(0, 0, -1), 1, 1000000);
        CHECKS.refused(x, "the same", () -> x.crossings(0, 4, 4), 6, 1000000);
    }

    private static void hooks() {
        DownTheMiddle x = Checks.withBand(0, 3, 5, 1, 0);
        CHECKS.due("four crossings of three each", x.hooks(0, 0, 1), 6);
        CHECKS.due("with the middle", x.hooks(0, 2, 0), 3);
        x.turn(0);
        CHECKS.due("by the other hand", x.hooks(0, 1, 0), -6);
        CHECKS.due("of no twist none", Checks.withBand(0, 0, 3, 1, 0).hooks(0, 0, 2), 0);
        // LAST lays 0 and 3 across the two between them.
        CHECKS.due("LAST", Checks.withBand(6, 0, 4, 0, 0).hooks(0, 0, 1), 1);
        CHECKS.refused(x, "no band", () -> x.hooks(1, 0, 0), 1, 1000000);
        CHECKS.refused(x, "no band", () -> x.hooks(-1, 0, 1), 1, 1000000);
        CHECKS.refused(x, "no piece, the same", () -> x.hooks(0, 3, 3), 1, 1000000);
        CHECKS.refused(x, "no piece", () -> x.hooks(0, -1, 0), 1, 1000000);
        CHECKS.refused(x, "no other", () -> x.hooks(0, 0, 3), 1, 1000000);
        CHECKS.refused(x, "no other", () -> x.hooks(0, 0, -1), 1, 1000000);
        CHECKS.refused(x, "the same", () -> x.hooks(0, 2, 2), 6, 1000000);
    }
}
