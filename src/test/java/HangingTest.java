import java.util.function.ToLongFunction;

/** Promises 22 to 27, sentence by sentence: all hooks, groups, unhook, painted, repaint, worn. */
public final class HangingTest {
    private static final Checks CHECKS = new Checks("HangingTest");
    private static final int MIN = Integer.MIN_VALUE;
    private static final int MAX = Integer.MAX_VALUE;

    public static void main(String[] args) {
        allHooks();
        groups();
        unhook();
        painted();
        repaint();
        worn();
        ofOneBandAfterAnother();
        refusals();
        CHECKS.finish();
    }

    private static DownTheMiddle one(int kind, int twists, int strips, int hand, int a) {
        return Checks.withBand(kind, twists, strips, hand, a);
    }

    private static void allHooks() {
        CHECKS.sentence("22: of all pairs of PIECES together", () -> {
            CHECKS.due("four PIECES, 1 each", one(0, 2, 4, 1, 0).allHooks(0), 6);
            CHECKS.due("6 and 3 and 3", one(0, 3, 5, 1, 0).allHooks(0), 12);
            CHECKS.due("only two of three", one(1, 1, 5, 0, 3).allHooks(0), 1);
            CHECKS.due("LAST", one(6, 0, 4, 0, 0).allHooks(0), 2);
        });
        CHECKS.sentence("22: without their signs", () -> {
            CHECKS.due("to the left", one(0, 2, 4, 0, 0).allHooks(0), 6);
            CHECKS.due("to the left", one(0, 3, 5, 0, 0).allHooks(0), 12);
        });
        CHECKS.sentence("22: 0 of one PIECE, and of no TWISTS", () -> {
            CHECKS.due("one STRIP", one(0, 9999, 1, 0, 0).allHooks(0), 0);
            CHECKS.due("one PIECE", one(0, 9999, 2, 0, 0).allHooks(0), 0);
            CHECKS.due("no TWISTS", one(0, 0, 12, 0, 0).allHooks(0), 0);
        });
        CHECKS.sentence("22: of the most", () -> {
            CHECKS.due("66 pairs, 4999 each", one(0, 9998, 12, 0, 0).allHooks(0), 66 * 4999);
            CHECKS.due("66 pairs, 5000 each", one(4, 9999, 12, 1, 0).allHooks(0), 66 * 5000);
            CHECKS.due("15 pairs, 19998 each", one(0, 9999, 12, 0, 0).allHooks(0), 15 * 19998);
        });
    }

    private static void groups() {
        CHECKS.sentence("23: PIECES that hang together, how many", () -> {
            CHECKS.due("two of three", one(1, 1, 5, 0, 3).groups(0), 2);
            CHECKS.due("the last two of three", one(1, 1, 5, 0, 1).groups(0), 2);
        });
        CHECKS.sentence("23: over others, too", () -> CHECKS.due("LAST: 1 and 2 in 0", one(6, 0, 4, 0, 0).groups(0), 1));
        CHECKS.sentence("23: one PIECE is one", () -> {
            CHECKS.due("one STRIP", one(0, 0, 1, 0, 0).groups(0), 1);
            CHECKS.due("one round", one(1, 0, 12, 0, 1).groups(0), 1);
        });
        CHECKS.sentence("23: each by itself, when none hang", () -> CHECKS.due("twelve", one(0, 0, 12, 0, 0).groups(0), 12));
        CHECKS.sentence("23: all together, when all hang", () -> CHECKS.due("twelve", one(0, 2, 12, 0, 0).groups(0), 1));
    }

    private static void unhook() {
        CHECKS.sentence("24: so that of the others no two hang in each other", () -> {
            CHECKS.due("all but one of five", one(0, 2, 5, 0, 0).unhook(0), 15);
            CHECKS.due("of twelve the last stays", one(0, 2, 12, 0, 0).unhook(0), 2047);
        });
        CHECKS.sentence("24: fewest", () -> {
            CHECKS.due("LAST: only that in the middle", one(6, 0, 12, 0, 0).unhook(0), 1);
            CHECKS.due("MIRROR", one(5, 0, 6, 1, 0).unhook(0), 3);
            CHECKS.due("the last two of three hang", one(1, 1, 5, 0, 1).unhook(0), 2);
        });
        CHECKS.sentence("24: of several the least as bits", () -> {
            CHECKS.due("either of two", one(0, 2, 2, 0, 0).unhook(0), 1);
            CHECKS.due("any two of three", one(0, 2, 3, 0, 0).unhook(0), 3);
            CHECKS.due("either of the two that hang", one(1, 1, 5, 0, 3).unhook(0), 1);
        });
        CHECKS.sentence("24: none, when none hang", () -> {
            CHECKS.due("one STRIP", one(0, 1, 1, 0, 0).unhook(0), 0);
            CHECKS.due("no TWISTS", one(0, 0, 12, 0, 0).unhook(0), 0);
            CHECKS.due("PLAIN, once to the left", one(4, 1, 12, 0, 0).unhook(0), 0);
        });
    }

    /** LINED of 9 strips, 3 pieces: 0, 3, 6; 1, 4, 7; 2, 5, 8. */
    private static DownTheMiddle coloured(int... colours) {
        DownTheMiddle x = one(1, 0, 9, 0, 3);
        for (int i = 0; i < colours.length; i++) {
            x.paint(0, i, colours[i]);
        }
        return x;
    }

    private static void painted() {
        CHECKS.sentence("25: PIECES all of whose STRIPS have one COLOUR", () -> {
            CHECKS.due("the first", coloured(5, 1, 2, 5, 2, 1, 5, 1, 2).painted(0), 1);
            CHECKS.due("the last", coloured(5, 1, 2, 4, 2, 2, 5, 1, 2).painted(0), 4);
            CHECKS.due("all but the last STRIP of one", coloured(5, 5, 5, 5, 5, 5, 5, 4, 5).painted(0), 5);
        });
        CHECKS.sentence("25: of COLOUR 0, too, as all are at first", () -> {
            CHECKS.due("at first", coloured().painted(0), 7);
            CHECKS.due("but for one", coloured(0, 7).painted(0), 5);
        });
        CHECKS.sentence("25: of COLOUR 7, too", () -> CHECKS.due("all 7", coloured(7, 7, 7, 7, 7, 7, 7, 7, 7).painted(0), 7));
        CHECKS.sentence("25: none", () -> CHECKS.due("none", coloured(1, 1, 1, 2, 2, 2).painted(0), 0));
        CHECKS.sentence("25: a PIECE of one STRIP always", () -> {
            DownTheMiddle x = one(0, 0, 12, 0, 0);
            for (int i = 0; i < 12; i++) {
                x.paint(0, i, i % 8);
            }
            CHECKS.due("twelve by themselves", x.painted(0), 4095);
            CHECKS.due("one STRIP", one(0, 0, 1, 0, 0).painted(0), 1);
        });
        CHECKS.sentence("25: all twelve STRIPS of one PIECE", () -> {
            DownTheMiddle x = one(1, 0, 12, 0, 1);
            CHECKS.due("at first", x.painted(0), 1);
            x.paint(0, 11, 1);
            CHECKS.due("but for the last", x.painted(0), 0);
        });
    }

    private static void repaint() {
        CHECKS.sentence("26: to how many STRIPS another COLOUR must be given, so that all PIECES are", () -> {
            CHECKS.due("one of the first, two of the second", coloured(5, 1, 2, 5, 2, 2, 4, 3, 2).repaint(0), 3);
            CHECKS.due("one of each", coloured(5, 1, 2, 5, 1, 2, 4, 3, 0).repaint(0), 3);
            CHECKS.due("one of the last", coloured(0, 0, 0, 0, 0, 0, 0, 0, 7).repaint(0), 1);
        });
        CHECKS.sentence("26: none, when all are", () -> {
            CHECKS.due("at first", coloured().repaint(0), 0);
            CHECKS.due("three COLOURS", coloured(1, 2, 3, 1, 2, 3, 1, 2, 3).repaint(0), 0);
            CHECKS.due("one STRIP", one(0, 0, 1, 0, 0).repaint(0), 0);
        });
        CHECKS.sentence("26: the COLOUR that most have stays, 0 or 7 as any other", () -> {
            CHECKS.due("0 stays", coloured(0, 0, 0, 0, 0, 0, 7).repaint(0), 1);
            CHECKS.due("7 stays", coloured(7, 0, 0, 7, 0, 0, 0).repaint(0), 1);
            DownTheMiddle x = one(1, 0, 12, 0, 1);
            for (int i = 0; i < 12; i++) {
                x.paint(0, i, i % 8);
            }
            CHECKS.due("twelve STRIPS of all eight COLOURS", x.repaint(0), 10);
        });
    }

    private static void worn() {
        CHECKS.sentence("27: PIECES with one SIDE", () -> {
            CHECKS.due("the middle one", one(0, 3, 5, 0, 0).worn(0), 4);
            CHECKS.due("the last of six", one(0, 3, 11, 0, 0).worn(0), 32);
        });
        CHECKS.sentence("27: all", () -> {
            CHECKS.due("twelve", one(4, 9999, 12, 0, 0).worn(0), 4095);
            CHECKS.due("one STRIP", one(0, 1, 1, 0, 0).worn(0), 1);
        });
        CHECKS.sentence("27: none", () -> {
            CHECKS.due("even", one(4, 2, 12, 0, 0).worn(0), 0);
            CHECKS.due("no TWISTS", one(0, 0, 1, 0, 0).worn(0), 0);
            CHECKS.due("two STRIPS each", one(0, 1, 12, 0, 0).worn(0), 0);
        });
    }

    private static void hangs(DownTheMiddle x, int band, int allHooks, int groups, int unhook, int worn) {
        CHECKS.due("allHooks(" + band + ")", x.allHooks(band), allHooks);
        CHECKS.due("groups(" + band + ")", x.groups(band), groups);
        CHECKS.due("unhook(" + band + ")", x.unhook(band), unhook);
        CHECKS.due("worn(" + band + ")", x.worn(band), worn);
    }

    private static void ofOneBandAfterAnother() {
        CHECKS.sentence("22 to 27: of one BAND after another, each as if it were alone", () -> {
            DownTheMiddle x = one(0, 2, 12, 1, 0);
            x.band(0, 0, 12, 0, 0);
            x.band(0, 3, 5, 0, 0);
            x.band(0, 1, 2, 0, 0);
            for (int round = 0; round < 2; round++) {
                hangs(x, 0, 66, 1, 2047, 0);
                hangs(x, 1, 0, 12, 0, 0);
                hangs(x, 0, 66, 1, 2047, 0);
                hangs(x, 2, 12, 1, 3, 4);
                hangs(x, 3, 0, 1, 0, 0);
                hangs(x, 1, 0, 12, 0, 0);
            }
        });
        CHECKS.sentence("22 to 27: of one BAND before and after it is changed", () -> {
            DownTheMiddle x = one(0, 2, 5, 1, 0);
            hangs(x, 0, 10, 1, 15, 0);
            x.twist(0, 0);
            hangs(x, 0, 0, 5, 0, 0);
            x.twist(0, 3);
            hangs(x, 0, 12, 1, 3, 4);
            x.goes();
            x.band(4, 1, 3, 0, 0);
            hangs(x, 0, 0, 3, 0, 7);
            x.turn(0);
            hangs(x, 0, 3, 1, 3, 7);
        });
    }

    private static DownTheMiddle scene() {
        DownTheMiddle x = one(0, 2, 3, 0, 0);
        x.image();
        x.band(0, 3, 5, 1, 1);
        x.paint(0, 1, 1);
        return x;
    }

    private static void refused(String name, ToLongFunction<DownTheMiddle> call) {
        CHECKS.refused(HangingTest::scene, name, call, 1);
    }

    private static void refusals() {
        for (int band : new int[] {-1, 2, 6, MIN, MAX}) {
            CHECKS.sentence("22: -1 no such BAND, " + band, () -> refused("allHooks", x -> x.allHooks(band)));
            CHECKS.sentence("23: -1 no such BAND, " + band, () -> refused("groups", x -> x.groups(band)));
            CHECKS.sentence("24: -1 no such BAND, " + band, () -> refused("unhook", x -> x.unhook(band)));
            CHECKS.sentence("25: -1 no such BAND, " + band, () -> refused("painted", x -> x.painted(band)));
            CHECKS.sentence("26: -1 no such BAND, " + band, () -> refused("repaint", x -> x.repaint(band)));
            CHECKS.sentence("27: -1 no such BAND, " + band, () -> refused("worn", x -> x.worn(band)));
        }
        CHECKS.sentence("22 to 27: the last BAND is there, and nothing is changed", () -> {
            DownTheMiddle x = scene();
            CHECKS.due("allHooks(1)", x.allHooks(1), 12);
            CHECKS.due("groups(1)", x.groups(1), 1);
            CHECKS.due("unhook(1)", x.unhook(1), 3);
            CHECKS.due("painted(1)", x.painted(1), 7);
            CHECKS.due("repaint(1)", x.repaint(1), 0);
            CHECKS.due("worn(1)", x.worn(1), 4);
            CHECKS.due("all", Told.all(x), Told.all(scene()));
            CHECKS.due("refusals", Told.refusals(x), 0, 0, 0, 0, 0, 0, 0);
        });
    }
}
