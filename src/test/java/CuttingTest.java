/** Promises 16 to 21, sentence by sentence: where strips go on, pieces, crossings, hooks. */
public final class CuttingTest {
    private static final Checks CHECKS = new Checks("CuttingTest");
    private static final int MIN = Integer.MIN_VALUE;
    private static final int MAX = Integer.MAX_VALUE;
    private static final int OFF = 1000000;

    public static void main(String[] args) {
        onOfBand();
        onOfKindsUnderIt();
        onRefusals();
        pieces();
        pieceOf();
        pieceOfRefusals();
        pieceAt();
        crossings();
        crossingsRefusals();
        hooks();
        hooksRefusals();
        ofOneBandAfterAnother();
        CHECKS.finish();
    }

    /** Band 0 of 5 strips in 3 pieces: 0 and 4, 1 and 3, 2; band 1 of 12 strips in one piece; an image of the first. */
    private static DownTheMiddle scene() {
        DownTheMiddle x = Checks.withBand(0, 3, 5, 1, 0);
        x.image();
        x.band(1, 2, 12, 0, 5);
        x.paint(0, 2, 6);
        x.twist(1, 4);
        return x;
    }

    private static DownTheMiddle one(int kind, int twists, int strips, int hand, int a) {
        return Checks.withBand(kind, twists, strips, hand, a);
    }

    private static void onIs(int kind, int twists, int a, int... want) {
        DownTheMiddle x = one(kind, twists, want.length, 0, a);
        for (int i = 0; i < want.length; i++) {
            CHECKS.due("on " + i + " of KIND " + kind + ", " + twists + " TWISTS, a " + a, x.on(0, i), want[i]);
        }
    }

    private static void onOfBand() {
        CHECKS.sentence("16: BAND: i, if TWISTS are even", () -> {
            onIs(0, 0, 9, 0, 1, 2, 3);
            onIs(0, 2, 9, 0, 1, 2);
            onIs(0, 9998, 1, 0, 1, 2, 3, 4, 5, 6, 7, 8, 9, 10, 11);
        });
        CHECKS.sentence("16: BAND: else n less 1 less i", () -> {
            onIs(0, 1, 9, 3, 2, 1, 0);
            onIs(0, 3, 9, 2, 1, 0);
            onIs(0, 9999, 1, 11, 10, 9, 8, 7, 6, 5, 4, 3, 2, 1, 0);
        });
        CHECKS.sentence("16: of one STRIP each goes on as itself", () -> {
            for (int kind = 0; kind < 7; kind++) {
                for (int a = 0; a < 10; a++) {
                    onIs(kind, 0, a, 0);
                    onIs(kind, 1, a, 0);
                }
            }
        });
    }

    private static void onOfKindsUnderIt() {
        CHECKS.sentence("16: LINED: where BAND has it, and a", () -> {
            onIs(1, 0, 0, 0, 1, 2, 3);
            onIs(1, 1, 0, 3, 2, 1, 0);
            onIs(1, 0, 1, 1, 2, 3, 0);
            onIs(1, 1, 1, 0, 3, 2, 1);
        });
        CHECKS.sentence("16: LINED: modulo n", () -> {
            onIs(1, 0, 3, 3, 0, 1, 2);
            onIs(1, 0, 4, 0, 1, 2, 3);
            onIs(1, 0, 5, 1, 2, 3, 0);
            onIs(1, 0, 9, 1, 0);
            onIs(1, 1, 9, 0, 1);
            onIs(1, 0, 9, 9, 10, 11, 0, 1, 2, 3, 4, 5, 6, 7, 8);
        });
        CHECKS.sentence("16: SWAPPED: where BAND has it, its pair", () -> {
            onIs(2, 0, 9, 1, 0, 3, 2);
            onIs(2, 1, 9, 2, 3, 0, 1);
            onIs(2, 2, 9, 1, 0, 3, 2, 5, 4, 7, 6, 9, 8, 11, 10);
        });
        CHECKS.sentence("16: SWAPPED: itself, if that isn't there", () -> {
            onIs(2, 0, 9, 1, 0, 3, 2, 4);
            onIs(2, 1, 9, 4, 2, 3, 0, 1);
            onIs(2, 0, 9, 1, 0, 2);
            onIs(2, 0, 9, 1, 0, 3, 2, 5, 4, 7, 6, 9, 8, 10);
        });
        CHECKS.sentence("16: PLAIN: i, whatever the TWISTS", () -> {
            onIs(4, 0, 9, 0, 1, 2, 3);
            onIs(4, 1, 9, 0, 1, 2, 3);
        });
        CHECKS.sentence("16: DOUBLE: twice as LINED has it", () -> {
            onIs(3, 0, 4, 3, 4, 0, 1, 2);
            onIs(3, 1, 4, 0, 1, 2, 3, 4);
            onIs(3, 0, 1, 2, 3, 0, 1);
            onIs(3, 0, 0, 0, 1, 2);
            onIs(3, 0, 9, 6, 7, 8, 9, 10, 11, 0, 1, 2, 3, 4, 5);
        });
        CHECKS.sentence("16: MIRROR: n less 1 less what SWAPPED has", () -> {
            onIs(5, 0, 9, 3, 4, 1, 2, 0);
            onIs(5, 1, 9, 0, 2, 1, 4, 3);
            onIs(5, 0, 9, 2, 3, 0, 1);
            onIs(5, 0, 9, 0, 1);
        });
        CHECKS.sentence("16: LAST: as PLAIN, but 0 goes on as n less 1, and that as 0", () -> {
            onIs(6, 0, 9, 3, 1, 2, 0);
            onIs(6, 1, 9, 3, 1, 2, 0);
            onIs(6, 0, 9, 1, 0);
            onIs(6, 0, 9, 2, 1, 0);
            onIs(6, 9999, 9, 11, 1, 2, 3, 4, 5, 6, 7, 8, 9, 10, 0);
        });
    }

    private static void onRefused(int band, int strip) {
        CHECKS.refused(CuttingTest::scene, "on(" + band + ", " + strip + ")", x -> x.on(band, strip), 1);
    }

    private static void onRefusals() {
        CHECKS.sentence("16: -1 BAND", () -> {
            onRefused(-1, 0);
            onRefused(2, 0);
            onRefused(MIN, 0);
            onRefused(MAX, 0);
        });
        CHECKS.sentence("16: -1 STRIP", () -> {
            onRefused(0, -1);
            onRefused(0, 5);
            onRefused(1, 12);
            onRefused(0, MIN);
            onRefused(0, MAX);
        });
        CHECKS.sentence("16: the last STRIP is there", () -> {
            CHECKS.due("on(0, 4)", scene().on(0, 4), 0);
            CHECKS.due("on(1, 11)", scene().on(1, 11), 4);
        });
    }

    private static void pieces() {
        CHECKS.sentence("17: those that go on as one another are one PIECE", () -> {
            CHECKS.due("three rounds", one(1, 0, 9, 0, 3).pieces(0), 3);
            CHECKS.due("two rounds", one(1, 0, 12, 0, 2).pieces(0), 2);
            CHECKS.due("two at a time, and one", one(0, 3, 11, 0, 0).pieces(0), 6);
            CHECKS.due("two at a time", one(0, 3, 12, 0, 0).pieces(0), 6);
        });
        CHECKS.sentence("17: as few as one", () -> {
            CHECKS.due("one STRIP", one(0, 2, 1, 0, 0).pieces(0), 1);
            CHECKS.due("two STRIPS", one(0, 1, 2, 0, 0).pieces(0), 1);
            CHECKS.due("twelve STRIPS in one round", one(1, 0, 12, 0, 5).pieces(0), 1);
        });
        CHECKS.sentence("17: as many as there are STRIPS", () -> CHECKS.due("each by itself", one(0, 2, 12, 0, 0).pieces(0), 12));
        CHECKS.sentence("17: -1 no such BAND", () -> {
            for (int band : new int[] {-1, 2, 6, MIN, MAX}) {
                CHECKS.refused(CuttingTest::scene, "pieces(" + band + ")", x -> x.pieces(band), 1);
            }
        });
    }

    private static void pieceIs(DownTheMiddle x, int piece, int... want) {
        for (int what = 0; what < 4; what++) {
            CHECKS.due("pieceOf(0, " + piece + ", " + what + ")", x.pieceOf(0, piece, what), want[what]);
        }
    }

    private static void pieceOf() {
        CHECKS.sentence("18: SIZE, its STRIPS as bits, TURNS, EDGES", () -> {
            pieceIs(scene(), 0, 2, 17, 8, 2);
            pieceIs(scene(), 1, 2, 10, 8, 2);
            pieceIs(scene(), 2, 1, 4, 3, 1);
        });
        CHECKS.sentence("18: in the order of the least STRIP of each", () -> {
            pieceIs(one(2, 0, 5, 0, 0), 0, 2, 3, 2, 2);
            pieceIs(one(2, 0, 5, 0, 0), 1, 2, 12, 2, 2);
            pieceIs(one(2, 0, 5, 0, 0), 2, 1, 16, 0, 2);
            pieceIs(one(6, 0, 3, 0, 0), 0, 2, 5, 2, 2);
            pieceIs(one(6, 0, 3, 0, 0), 1, 1, 2, 0, 2);
        });
        CHECKS.sentence("18: TURNS of a PIECE of one STRIP are TWISTS", () -> {
            pieceIs(one(0, 0, 1, 0, 0), 0, 1, 1, 0, 2);
            pieceIs(one(0, 1, 1, 0, 0), 0, 1, 1, 1, 1);
            pieceIs(one(0, 9999, 1, 0, 0), 0, 1, 1, 9999, 1);
            pieceIs(one(0, 2, 12, 0, 0), 11, 1, 2048, 2, 2);
        });
        CHECKS.sentence("18: TURNS: TWISTS times SIZE, and 2 for each STRIP but one", () -> {
            pieceIs(one(0, 1, 2, 0, 0), 0, 2, 3, 4, 2);
            pieceIs(one(1, 1, 3, 0, 1), 1, 2, 6, 4, 2);
            pieceIs(one(1, 0, 9, 0, 3), 1, 3, 2 + 16 + 128, 4, 2);
            pieceIs(one(1, 2, 9, 0, 3), 1, 3, 2 + 16 + 128, 10, 2);
        });
        CHECKS.sentence("18: of all twelve STRIPS", () -> {
            pieceIs(one(1, 0, 12, 0, 5), 0, 12, 4095, 22, 2);
            pieceIs(one(1, 9998, 12, 0, 1), 0, 12, 4095, 9998 * 12 + 22, 2);
        });
        CHECKS.sentence("18: EDGES: 1 of a PIECE whose TURNS are odd, else 2", () -> {
            CHECKS.due("0 TURNS", one(0, 0, 1, 0, 0).pieceOf(0, 0, 3), 2);
            CHECKS.due("1", one(0, 1, 1, 0, 0).pieceOf(0, 0, 3), 1);
            CHECKS.due("2", one(0, 2, 1, 0, 0).pieceOf(0, 0, 3), 2);
            CHECKS.due("4, of 1 TWIST", one(0, 1, 2, 0, 0).pieceOf(0, 0, 3), 2);
        });
    }

    private static void pieceOfRefused(int band, int piece, int what, int number) {
        CHECKS.refused(CuttingTest::scene, "pieceOf(" + band + ", " + piece + ", " + what + ")",
                x -> x.pieceOf(band, piece, what), number);
    }

    private static void pieceOfRefusals() {
        CHECKS.sentence("18: -1 BAND", () -> {
            pieceOfRefused(-1, 0, 0, 1);
            pieceOfRefused(2, 0, 0, 1);
            pieceOfRefused(MIN, 0, 0, 1);
            pieceOfRefused(MAX, 0, 0, 1);
        });
        CHECKS.sentence("18: -1 PIECE", () -> {
            pieceOfRefused(0, -1, 0, 1);
            pieceOfRefused(0, 3, 0, 1);
            pieceOfRefused(1, 1, 0, 1);
            pieceOfRefused(0, MIN, 0, 1);
            pieceOfRefused(0, MAX, 0, 1);
        });
        CHECKS.sentence("18: -5 another what", () -> {
            pieceOfRefused(0, 0, -1, 5);
            pieceOfRefused(0, 2, 4, 5);
            pieceOfRefused(0, 0, MIN, 5);
            pieceOfRefused(0, 0, MAX, 5);
        });
        CHECKS.sentence("18: -1 before -5", () -> {
            pieceOfRefused(2, 0, 4, 1);
            pieceOfRefused(0, 3, -1, 1);
        });
    }

    private static void pieceAt() {
        CHECKS.sentence("19: which PIECE a STRIP is of", () -> {
            int[] due = {0, 1, 2, 1, 0};
            for (int i = 0; i < 5; i++) {
                CHECKS.due("pieceAt(0, " + i + ")", scene().pieceAt(0, i), due[i]);
            }
            CHECKS.due("pieceAt(1, 11)", scene().pieceAt(1, 11), 0);
            CHECKS.due("the twelfth", one(4, 1, 12, 0, 0).pieceAt(0, 11), 11);
        });
        CHECKS.sentence("19: -1 BAND, STRIP", () -> {
            int[][] none = {{-1, 0}, {2, 0}, {MIN, 0}, {MAX, 0}, {0, -1}, {0, 5}, {1, 12}, {0, MIN}, {0, MAX}};
            for (int[] of : none) {
                CHECKS.refused(CuttingTest::scene, "pieceAt(" + of[0] + ", " + of[1] + ")", x -> x.pieceAt(of[0], of[1]), 1);
            }
        });
    }

    private static void crossingsAre(int kind, int twists, int hand, int want) {
        DownTheMiddle x = one(kind, twists, 2, hand, 0);
        String of = " of KIND " + kind + ", " + twists + " TWISTS, HAND " + hand;
        CHECKS.due("crossings(0, 0, 1)" + of, x.crossings(0, 0, 1), want);
        CHECKS.due("crossings(0, 1, 0)" + of, x.crossings(0, 1, 0), want);
    }

    private static void crossings() {
        CHECKS.sentence("20: TWISTS of them, left -1 each", () -> {
            crossingsAre(0, 3, 0, -3);
            crossingsAre(0, 4, 0, -4);
            crossingsAre(0, 9998, 0, -9998);
        });
        CHECKS.sentence("20: TWISTS of them, right 1 each", () -> {
            crossingsAre(0, 3, 1, 3);
            crossingsAre(0, 4, 1, 4);
            crossingsAre(0, 9999, 1, 9999);
        });
        CHECKS.sentence("20: none of no TWISTS", () -> {
            crossingsAre(0, 0, 0, 0);
            crossingsAre(4, 0, 1, 0);
        });
        CHECKS.sentence("20: one more, counted 1 for either HAND, if TWISTS are odd and ON keeps their order", () -> {
            crossingsAre(4, 3, 0, -2);
            crossingsAre(4, 3, 1, 4);
            crossingsAre(4, 1, 0, 0);
            crossingsAre(4, 9999, 1, 10000);
        });
        CHECKS.sentence("20: one more, counted 1 for either HAND, if TWISTS are even and ON turns it about", () -> {
            crossingsAre(2, 4, 0, -3);
            crossingsAre(2, 4, 1, 5);
            crossingsAre(6, 0, 0, 1);
            crossingsAre(6, 0, 1, 1);
        });
        CHECKS.sentence("20: not one more, if they are odd and ON turns it about, or even and it keeps it", () -> {
            crossingsAre(6, 3, 0, -3);
            crossingsAre(6, 3, 1, 3);
            crossingsAre(4, 4, 0, -4);
            crossingsAre(4, 4, 1, 4);
        });
        CHECKS.sentence("20: the first and the last STRIP", () -> {
            CHECKS.due("crossings(0, 0, 4)", scene().crossings(0, 0, 4), 3);
            CHECKS.due("crossings(1, 11, 0)", scene().crossings(1, 11, 0), -3);
            CHECKS.due("crossings(1, 11, 10)", scene().crossings(1, 11, 10), -4);
        });
    }

    private static void crossingsRefused(int band, int strip, int other, int number) {
        CHECKS.refused(CuttingTest::scene, "crossings(" + band + ", " + strip + ", " + other + ")",
                x -> x.crossings(band, strip, other), number, OFF);
    }

    private static void crossingsRefusals() {
        CHECKS.sentence("20: -1000001, counted as -1: BAND", () -> {
            crossingsRefused(-1, 0, 1, 1);
            crossingsRefused(2, 0, 1, 1);
            crossingsRefused(MIN, 0, 1, 1);
            crossingsRefused(MAX, 0, 1, 1);
        });
        CHECKS.sentence("20: -1000001, counted as -1: either STRIP", () -> {
            for (int strip : new int[] {-1, 5, MIN, MAX}) {
                crossingsRefused(0, strip, 1, 1);
                crossingsRefused(0, 1, strip, 1);
            }
            crossingsRefused(1, 12, 0, 1);
            crossingsRefused(1, 0, 12, 1);
        });
        CHECKS.sentence("20: -1000006 the same, counted as -6", () -> {
            crossingsRefused(0, 0, 0, 6);
            crossingsRefused(0, 4, 4, 6);
        });
        CHECKS.sentence("20: -1000001 before -1000006", () -> {
            crossingsRefused(0, 5, 5, 1);
            crossingsRefused(0, -1, -1, 1);
            crossingsRefused(2, 0, 0, 1);
        });
    }

    private static void hooks() {
        CHECKS.sentence("21: half of the CROSSINGS of all STRIPS of the one with all of the other", () -> {
            DownTheMiddle x = scene();
            CHECKS.due("four times three", x.hooks(0, 0, 1), 6);
            CHECKS.due("two times three", x.hooks(0, 0, 2), 3);
            CHECKS.due("two times three", x.hooks(0, 1, 2), 3);
        });
        CHECKS.sentence("21: the other way about the same", () -> {
            DownTheMiddle x = scene();
            CHECKS.due("hooks(0, 1, 0)", x.hooks(0, 1, 0), 6);
            CHECKS.due("hooks(0, 2, 0)", x.hooks(0, 2, 0), 3);
        });
        CHECKS.sentence("21: with their signs", () -> {
            DownTheMiddle x = scene();
            x.turn(0);
            CHECKS.due("hooks(0, 0, 1)", x.hooks(0, 0, 1), -6);
            CHECKS.due("two of PLAIN, three times to the left", one(4, 3, 2, 0, 0).hooks(0, 0, 1), -1);
            CHECKS.due("two of PLAIN, three times to the right", one(4, 3, 2, 1, 0).hooks(0, 0, 1), 2);
        });
        CHECKS.sentence("21: none of no TWISTS, but for those that ON turns about", () -> {
            CHECKS.due("BAND", one(0, 0, 3, 1, 0).hooks(0, 0, 2), 0);
            CHECKS.due("LAST", one(6, 0, 4, 0, 0).hooks(0, 0, 1), 1);
            CHECKS.due("PLAIN, once to the left", one(4, 1, 4, 0, 0).hooks(0, 0, 3), 0);
            CHECKS.due("PLAIN, once to the right", one(4, 1, 4, 1, 0).hooks(0, 0, 3), 1);
        });
        CHECKS.sentence("21: of the most TWISTS", () -> {
            CHECKS.due("four times 9999", one(0, 9999, 4, 0, 0).hooks(0, 0, 1), -19998);
            CHECKS.due("36 times 9998", one(1, 9998, 12, 1, 2).hooks(0, 0, 1), 18 * 9998 + 5);
        });
    }

    private static void hooksRefused(int band, int piece, int other, int number) {
        CHECKS.refused(CuttingTest::scene, "hooks(" + band + ", " + piece + ", " + other + ")",
                x -> x.hooks(band, piece, other), number, OFF);
    }

    private static void hooksRefusals() {
        CHECKS.sentence("21: -1000001, counted as -1: BAND", () -> {
            hooksRefused(-1, 0, 1, 1);
            hooksRefused(2, 0, 1, 1);
            hooksRefused(MIN, 0, 1, 1);
            hooksRefused(MAX, 0, 1, 1);
        });
        CHECKS.sentence("21: -1000001, counted as -1: either PIECE", () -> {
            for (int piece : new int[] {-1, 3, MIN, MAX}) {
                hooksRefused(0, piece, 1, 1);
                hooksRefused(0, 1, piece, 1);
            }
            hooksRefused(1, 0, 1, 1);
        });
        CHECKS.sentence("21: -1000006 the same, counted as -6", () -> {
            hooksRefused(0, 0, 0, 6);
            hooksRefused(0, 2, 2, 6);
            hooksRefused(1, 0, 0, 6);
        });
        CHECKS.sentence("21: -1000001 before -1000006", () -> {
            hooksRefused(0, 3, 3, 1);
            hooksRefused(0, -1, -1, 1);
            hooksRefused(1, 1, 1, 1);
            hooksRefused(2, 0, 0, 1);
        });
    }

    private static void ofOneBandAfterAnother() {
        CHECKS.sentence("16 to 21: of one BAND after another, each as if it were alone", () -> {
            DownTheMiddle x = one(0, 2, 12, 1, 0);
            x.band(0, 3, 5, 0, 0);
            for (int round = 0; round < 2; round++) {
                CHECKS.due("pieces(0)", x.pieces(0), 12);
                CHECKS.due("pieceOf(1, 0, 1)", x.pieceOf(1, 0, 1), 17);
                CHECKS.due("pieceAt(0, 11)", x.pieceAt(0, 11), 11);
                CHECKS.due("pieces(1)", x.pieces(1), 3);
                CHECKS.due("pieceOf(0, 11, 2)", x.pieceOf(0, 11, 2), 2);
                CHECKS.due("hooks(1, 0, 1)", x.hooks(1, 0, 1), -6);
                CHECKS.due("hooks(0, 0, 1)", x.hooks(0, 0, 1), 1);
                CHECKS.due("hooks(1, 0, 3)", x.hooks(1, 0, 3), -1000001);
                CHECKS.due("crossings(0, 10, 11)", x.crossings(0, 10, 11), 2);
                CHECKS.due("crossings(1, 0, 1)", x.crossings(1, 0, 1), -3);
                CHECKS.due("on(1, 0)", x.on(1, 0), 4);
                CHECKS.due("on(0, 0)", x.on(0, 0), 0);
            }
        });
    }
}
