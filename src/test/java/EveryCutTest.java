/** Promises 16 to 27, 29, 30, 32, 33 and 43 for bands of every kind, of any strips, beside the second program. */
public final class EveryCutTest {
    private static final Checks CHECKS = new Checks("EveryCutTest");
    private static final int[] TWISTS = {0, 1, 2, 3, 4, 5, 40, 41, 9998, 9999};
    private static final String[] ASKED = {"allHooks", "groups", "unhook", "painted", "repaint", "worn", "most", "pieces"};

    public static void main(String[] args) {
        for (int kind = 0; kind < 7; kind++) {
            for (int strips = 1; strips <= 12; strips++) {
                int k = kind;
                int n = strips;
                CHECKS.sentence("KIND " + kind + " of " + strips + " STRIPS", () -> bands(k, n));
            }
        }
        CHECKS.finish();
    }

    private static void bands(int kind, int strips) {
        for (int twists : TWISTS) {
            for (int a = 0; a < 10; a += kind == 1 || kind == 3 ? 1 : 9) {
                for (int hand = 0; hand < 2; hand++) {
                    compare(new int[] {kind, twists, strips, hand, a});
                }
            }
        }
    }

    private static DownTheMiddle classOf(int[] band) {
        DownTheMiddle x = new DownTheMiddle();
        x.band(band[0], band[1], band[2], band[3], band[4]);
        for (int i = 0; i < band[2]; i++) {
            x.paint(0, i, colour(band, i));
        }
        return x;
    }

    private static Paper paperOf(int[] band) {
        Paper x = new Paper();
        x.band(band[0], band[1], band[2], band[3], band[4]);
        for (int i = 0; i < band[2]; i++) {
            x.paint(0, i, colour(band, i));
        }
        return x;
    }

    private static int colour(int[] band, int strip) {
        return (strip * strip + band[1] + strip / 3 * band[4]) % 3 * 3 + 1;
    }

    private static void compare(int[] band) {
        String of = " of " + java.util.Arrays.toString(band);
        Paper due = paperOf(band);
        DownTheMiddle x = classOf(band);
        for (String name : ASKED) {
            CHECKS.due(name + of, new Call(name, 0).of(x), new Call(name, 0).of(due));
        }
        CHECKS.due("status(1)" + of, x.status(1), due.status(1));
        for (int k = 1; k <= 12; k++) {
            CHECKS.due("leastTwist to " + k + of, x.leastTwist(0, k), due.leastTwist(0, k));
        }
        compareStrips(x, due, band[2], of);
        comparePieces(classOf(band), due, of);
        compareTold(classOf(band), due, of);
    }

    private static void compareStrips(DownTheMiddle x, Paper due, int strips, String of) {
        for (int i = 0; i < strips; i++) {
            CHECKS.due("on " + i + of, x.on(0, i), due.on(0, i));
            CHECKS.due("pieceAt " + i + of, x.pieceAt(0, i), due.pieceAt(0, i));
            for (int j = 0; j < strips; j++) {
                CHECKS.due("crossings " + i + " " + j + of, x.crossings(0, i, j), due.crossings(0, i, j));
            }
        }
    }

    private static void comparePieces(DownTheMiddle x, Paper due, String of) {
        int many = due.pieces(0);
        for (int p = 0; p < many; p++) {
            for (int what = 0; what < 4; what++) {
                CHECKS.due("pieceOf " + p + " " + what + of, x.pieceOf(0, p, what), due.pieceOf(0, p, what));
            }
            for (int q = 0; q < many; q++) {
                CHECKS.due("hooks " + p + " " + q + of, x.hooks(0, p, q), due.hooks(0, p, q));
            }
        }
        CHECKS.due("no such piece" + of, x.pieceOf(0, many, 0), -1);
    }

    private static void compareTold(DownTheMiddle x, Paper due, String of) {
        int many = due.pieces(0);
        x.row(0, 2, many);
        x.row(1, 0, many + 1);
        due.row(0, 2, many);
        for (int p = 0; p < many; p++) {
            int turns = due.pieceOf(0, many - 1 - p, 2);
            x.set(0, p, turns);
            due.set(0, p, turns);
            x.set(1, p, due.pieceOf(0, p, 0));
        }
        CHECKS.due("fits" + of, x.fits(0, 0, many), due.fits(0, 0, many));
        CHECKS.due("judge" + of, x.judge(0, 1, many), -1);
        CHECKS.due("judge of too many" + of, x.judge(0, 1, many + 1), many);
        CHECKS.due("judge of too few" + of, x.judge(0, 1, many - 1), many - 1);
        x.set(1, many - 1, 13);
        CHECKS.due("judge of a wrong last" + of, x.judge(0, 1, many), many - 1);
    }
}
