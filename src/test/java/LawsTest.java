/** Promises 28 to 34, sentence by sentence: laws, told cuttings, bands that fit, and bands across each other. */
public final class LawsTest {
    private static final Checks CHECKS = new Checks("LawsTest");
    private static final int MIN = Integer.MIN_VALUE;
    private static final int MAX = Integer.MAX_VALUE;
    private static final int MOST = 1000000000;

    public static void main(String[] args) {
        law();
        lawRefusals();
        judge();
        judgeRefusals();
        fits();
        fitsRefusals();
        make();
        makeRefusals();
        leastTwist();
        leastTwistRefusals();
        most();
        cross();
        crossRefusals();
        CHECKS.finish();
    }

    private static DownTheMiddle one(int kind, int twists, int strips, int hand, int a) {
        return Checks.withBand(kind, twists, strips, hand, a);
    }

    /** Band 0 in pieces of 2, 2, 1; band 1 of one strip; shelf 0 a row of 5, 1 a band, 2 an empty row, 3 nothing. */
    private static DownTheMiddle scene() {
        DownTheMiddle x = one(0, 3, 5, 0, 0);
        x.image();
        x.band(4, 9999, 1, 1, 9);
        x.twist(0, 3);
        Checks.numbers(x, 0, 2, 2, 2, 1, 0, 7);
        x.show(1, 0);
        x.row(2, 0, 0);
        return x;
    }

    private static void lawIs(int h, int n, long... want) {
        DownTheMiddle x = new DownTheMiddle();
        for (int what = 0; what < 4; what++) {
            CHECKS.due("law(" + h + ", " + n + ", " + what + ")", x.law(h, n, what), want[what]);
        }
    }

    private static void law() {
        CHECKS.sentence("28: as a BAND of KIND BAND has it, up to 12 STRIPS", () -> {
            for (int h = 0; h < 43; h++) {
                for (int n = 1; n <= 12; n++) {
                    DownTheMiddle x = one(0, h, n, 0, 0);
                    int greatest = 0;
                    for (int p = 0; p < x.pieces(0); p++) {
                        greatest = Math.max(greatest, x.pieceOf(0, p, 0));
                    }
                    long hooks = x.pieces(0) < 2 ? 0 : Math.abs(x.hooks(0, 0, 1));
                    lawIs(h, n, x.pieces(0), greatest, x.pieceOf(0, 0, 2), hooks);
                }
            }
        });
        CHECKS.sentence("28: h from 0 on, n from 1 on", () -> {
            lawIs(0, 1, 1, 1, 0, 0);
            lawIs(0, 2, 2, 1, 0, 0);
            lawIs(1, 1, 1, 1, 1, 0);
        });
        CHECKS.sentence("28: h to 1000000000, n to 1000000000", () -> {
            lawIs(MOST, MOST, MOST, 1, MOST, 500000000);
            lawIs(MOST - 1, MOST, 500000000, 2, 2000000000, 1999999998);
            lawIs(MOST - 1, MOST - 1, 500000000, 2, 2000000000, 1999999998);
            lawIs(MOST, 1, 1, 1, MOST, 0);
            lawIs(0, MOST, MOST, 1, 0, 0);
            lawIs(1, MOST, 500000000, 2, 4, 2);
        });
        CHECKS.sentence("28: HOOKS 0, if there are fewer PIECES than two", () -> {
            lawIs(MOST - 1, 1, 1, 1, 999999999, 0);
            lawIs(MOST - 1, 2, 1, 2, 2000000000, 0);
            lawIs(MOST, 1, 1, 1, MOST, 0);
        });
        CHECKS.sentence("28: two PIECES and no fewer", () -> {
            lawIs(MOST - 1, 3, 2, 2, 2000000000, 999999999);
            lawIs(MOST - 1, 4, 2, 2, 2000000000, 1999999998);
            lawIs(MOST, 2, 2, 1, MOST, 500000000);
        });
    }

    private static void lawRefused(int h, int n, int what, int number) {
        CHECKS.refused(LawsTest::scene, "law(" + h + ", " + n + ", " + what + ")", x -> x.law(h, n, what), number);
    }

    private static void lawRefusals() {
        CHECKS.sentence("28: -5 another what", () -> {
            lawRefused(0, 1, -1, 5);
            lawRefused(0, 1, 4, 5);
            lawRefused(0, 1, MIN, 5);
            lawRefused(0, 1, MAX, 5);
        });
        CHECKS.sentence("28: -6 h below 0", () -> {
            for (int what = 0; what < 4; what++) {
                lawRefused(-1, 1, what, 6);
                lawRefused(MIN, 1, what, 6);
            }
        });
        CHECKS.sentence("28: -6 h above 1000000000", () -> {
            for (int what = 0; what < 4; what++) {
                lawRefused(MOST + 1, 1, what, 6);
                lawRefused(MAX, 1, what, 6);
            }
        });
        CHECKS.sentence("28: -6 n below 1", () -> {
            for (int what = 0; what < 4; what++) {
                lawRefused(0, 0, what, 6);
                lawRefused(0, -1, what, 6);
                lawRefused(0, MIN, what, 6);
            }
        });
        CHECKS.sentence("28: -6 n above 1000000000", () -> {
            for (int what = 0; what < 4; what++) {
                lawRefused(0, MOST + 1, what, 6);
                lawRefused(0, MAX, what, 6);
            }
        });
        CHECKS.sentence("28: -5 before -6", () -> {
            lawRefused(-1, 1, 4, 5);
            lawRefused(0, 0, -1, 5);
            lawRefused(MOST + 1, MOST + 1, 4, 5);
        });
    }

    private static void judged(int want, int n, long... sizes) {
        DownTheMiddle x = scene();
        Checks.numbers(x, 7, 2, sizes);
        CHECKS.due("judge of the first " + n + " of " + java.util.Arrays.toString(sizes), x.judge(0, 7, n), want);
        CHECKS.due("refusals", Told.refusals(x), 0, 0, 0, 0, 0, 0, 0);
    }

    private static void judge() {
        CHECKS.sentence("29: NONE, when all is so", () -> {
            judged(-1, 3, 2, 2, 1);
            judged(-1, 3, 2, 2, 1, 9, 9);
            DownTheMiddle x = scene();
            Checks.numbers(x, 7, 0, 1);
            CHECKS.due("of one PIECE", x.judge(1, 7, 1), -1);
        });
        CHECKS.sentence("29: the first that isn't so", () -> {
            judged(0, 3, 1, 2, 1);
            judged(0, 3, 3, 3, 3);
            judged(1, 3, 2, 1, 2);
            judged(2, 3, 2, 2, 2);
            judged(0, 1, 0);
            judged(0, 1, -2);
        });
        CHECKS.sentence("29: one more than there are PIECES isn't so", () -> {
            judged(3, 4, 2, 2, 1, 0);
            judged(3, 5, 2, 2, 1, 1, 1);
            judged(1, 4, 2, 1, 2, 1);
        });
        CHECKS.sentence("29: as many, if there are PIECES besides", () -> {
            judged(2, 2, 2, 2, 1);
            judged(1, 1, 2, 2, 1);
        });
        CHECKS.sentence("29: none told, when there are PIECES besides", () -> {
            judged(0, 0, 2, 2, 1);
            CHECKS.due("of a ROW without elements", scene().judge(0, 2, 0), 0);
        });
        CHECKS.sentence("29: of twelve", () -> {
            DownTheMiddle x = one(0, 0, 12, 0, 0);
            Checks.numbers(x, 0, 1, 1, 1, 1, 1, 1, 1, 1, 1, 1, 1, 1, 1, 1);
            CHECKS.due("all twelve", x.judge(0, 0, 12), -1);
            CHECKS.due("eleven", x.judge(0, 0, 11), 11);
            CHECKS.due("thirteen", x.judge(0, 0, 13), 12);
        });
        CHECKS.sentence("29: a ROW of any SORT, of longs the lowest 32 bits", () -> {
            for (int sort = 0; sort < 4; sort++) {
                DownTheMiddle x = scene();
                Checks.numbers(x, 7, sort, 2, 2, 1);
                CHECKS.due("judge of SORT " + sort, x.judge(0, 7, 3), -1);
            }
            DownTheMiddle x = scene();
            Checks.numbers(x, 7, 3, (1L << 32) + 2, (-1L << 32) + 2, 1);
            CHECKS.due("judge of longs", x.judge(0, 7, 3), -1);
        });
        CHECKS.sentence("29: nothing is changed", () -> {
            DownTheMiddle x = scene();
            x.judge(0, 0, 3);
            CHECKS.due("all", Told.all(x), Told.all(scene()));
        });
    }

    private static void judgeRefused(int band, int s, int n, int number) {
        CHECKS.refused(LawsTest::scene, "judge(" + band + ", " + s + ", " + n + ")", x -> x.judge(band, s, n), number, 10);
    }

    private static void judgeRefusals() {
        CHECKS.sentence("29: -11 no such SHELF, counted as -1", () -> {
            judgeRefused(0, -1, 0, 1);
            judgeRefused(0, 8, 0, 1);
            judgeRefused(0, MIN, 0, 1);
            judgeRefused(0, MAX, 0, 1);
        });
        CHECKS.sentence("29: -11 also the BAND, counted as -1", () -> {
            judgeRefused(-1, 0, 0, 1);
            judgeRefused(2, 0, 0, 1);
            judgeRefused(MIN, 0, 0, 1);
            judgeRefused(MAX, 0, 0, 1);
        });
        CHECKS.sentence("29: -12 a BAND in the SHELF, counted as -2", () -> judgeRefused(0, 1, 0, 2));
        CHECKS.sentence("29: -13 NOTHING, counted as -3", () -> judgeRefused(0, 3, 0, 3));
        CHECKS.sentence("29: -14 n, counted as -4", () -> {
            judgeRefused(0, 0, -1, 4);
            judgeRefused(0, 0, MIN, 4);
            judgeRefused(0, 2, -1, 4);
        });
        CHECKS.sentence("29: -15 fewer elements, counted as -5", () -> {
            judgeRefused(0, 0, 6, 5);
            judgeRefused(0, 0, MAX, 5);
            judgeRefused(0, 2, 1, 5);
        });
        CHECKS.sentence("29: -11 before -12", () -> judgeRefused(2, 1, 0, 1));
        CHECKS.sentence("29: -11 before -13", () -> judgeRefused(-1, 3, 0, 1));
        CHECKS.sentence("29: -11 before -14", () -> {
            judgeRefused(2, 0, -1, 1);
            judgeRefused(0, 8, -1, 1);
        });
        CHECKS.sentence("29: -11 before -15", () -> {
            judgeRefused(2, 0, 6, 1);
            judgeRefused(0, -1, 6, 1);
        });
        CHECKS.sentence("29: -12 before -14 and -15", () -> {
            judgeRefused(0, 1, -1, 2);
            judgeRefused(0, 1, 1, 2);
        });
        CHECKS.sentence("29: -13 before -14 and -15", () -> {
            judgeRefused(0, 3, -1, 3);
            judgeRefused(0, 3, 1, 3);
        });
    }

    private static void fitsIs(DownTheMiddle x, long want, int n, long... turns) {
        Checks.numbers(x, 7, 2, turns);
        CHECKS.due("fits of the first " + n + " of " + java.util.Arrays.toString(turns), x.fits(0, 7, n), want);
    }

    private static void fits() {
        CHECKS.sentence("30: TWISTS (bits) which the BAND could have had", () -> {
            fitsIs(scene(), 1L << 3, 3, 8, 8, 3);
            fitsIs(scene(), 1L << 1, 3, 4, 4, 1);
            fitsIs(scene(), 1L << 2, 5, 2, 2, 2, 2, 2);
        });
        CHECKS.sentence("30: of any order", () -> {
            fitsIs(scene(), 1L << 3, 3, 3, 8, 8);
            fitsIs(scene(), 1L << 3, 3, 8, 3, 8);
        });
        CHECKS.sentence("30: TWISTS from 0 on", () -> {
            fitsIs(scene(), 1, 5, 0, 0, 0, 0, 0);
            fitsIs(scene(), 0, 5, -2, -2, -2, -2, -2);
            fitsIs(one(4, 5, 1, 0, 0), 1, 1, 0);
            fitsIs(one(4, 5, 1, 0, 0), 0, 1, -1);
        });
        CHECKS.sentence("30: TWISTS to 40", () -> {
            fitsIs(scene(), 1L << 40, 5, 40, 40, 40, 40, 40);
            fitsIs(scene(), 1L << 39, 3, 80, 80, 39);
            fitsIs(scene(), 0, 3, 84, 84, 41);
            fitsIs(one(4, 5, 1, 0, 0), 1L << 40, 1, 40);
            fitsIs(one(4, 5, 1, 0, 0), 1L << 31, 1, 31);
            fitsIs(one(4, 5, 1, 0, 0), 1L << 32, 1, 32);
            fitsIs(one(4, 5, 1, 0, 0), 0, 1, 41);
            fitsIs(one(4, 41, 1, 0, 0), 0, 1, 41);
        });
        CHECKS.sentence("30: just these: none besides, none fewer, none twice for another", () -> {
            fitsIs(scene(), 0, 2, 8, 8, 3);
            fitsIs(scene(), 0, 4, 8, 8, 3, 3);
            fitsIs(scene(), 0, 3, 8, 3, 3);
            fitsIs(scene(), 0, 3, 8, 8, 8);
            fitsIs(scene(), 0, 3, 8, 8, 4);
            fitsIs(scene(), 0, 0, 8, 8, 3);
            CHECKS.due("of a ROW without elements", scene().fits(0, 2, 0), 0);
        });
        CHECKS.sentence("30: only the first n elements", () -> fitsIs(scene(), 1L << 3, 3, 8, 8, 3, 3, 3));
        CHECKS.sentence("30: of any SORT, of longs the lowest 32 bits", () -> {
            for (int sort = 0; sort < 4; sort++) {
                DownTheMiddle x = scene();
                Checks.numbers(x, 7, sort, 8, 8, 3);
                CHECKS.due("fits of SORT " + sort, x.fits(0, 7, 3), 8);
            }
            DownTheMiddle x = scene();
            Checks.numbers(x, 7, 3, (1L << 32) + 8, (-1L << 32) + 8, (9L << 32) + 3);
            CHECKS.due("fits of longs", x.fits(0, 7, 3), 8);
        });
        CHECKS.sentence("30: whatever TWISTS it has, and they stay", () -> {
            DownTheMiddle x = one(0, 9999, 5, 0, 0);
            fitsIs(x, 1L << 3, 3, 8, 8, 3);
            CHECKS.due("bandOf(0, 1)", x.bandOf(0, 1), 9999);
        });
    }

    private static void fitsRefused(int band, int s, int n, int number) {
        CHECKS.refused(LawsTest::scene, "fits(" + band + ", " + s + ", " + n + ")", x -> x.fits(band, s, n), number);
    }

    private static void fitsRefusals() {
        CHECKS.sentence("30: -1 no such SHELF", () -> {
            fitsRefused(0, -1, 0, 1);
            fitsRefused(0, 8, 0, 1);
            fitsRefused(0, MIN, 0, 1);
            fitsRefused(0, MAX, 0, 1);
        });
        CHECKS.sentence("30: -1 also the BAND", () -> {
            fitsRefused(-1, 0, 0, 1);
            fitsRefused(2, 0, 0, 1);
            fitsRefused(MIN, 0, 0, 1);
            fitsRefused(MAX, 0, 0, 1);
        });
        CHECKS.sentence("30: -2 a BAND in the SHELF", () -> fitsRefused(0, 1, 0, 2));
        CHECKS.sentence("30: -3 NOTHING", () -> fitsRefused(0, 3, 0, 3));
        CHECKS.sentence("30: -4 n", () -> {
            fitsRefused(0, 0, -1, 4);
            fitsRefused(0, 0, MIN, 4);
            fitsRefused(0, 2, -1, 4);
        });
        CHECKS.sentence("30: -5 fewer elements", () -> {
            fitsRefused(0, 0, 6, 5);
            fitsRefused(0, 0, MAX, 5);
            fitsRefused(0, 2, 1, 5);
        });
        CHECKS.sentence("30: -1 before -2", () -> fitsRefused(2, 1, 0, 1));
        CHECKS.sentence("30: -1 before -3", () -> fitsRefused(-1, 3, 0, 1));
        CHECKS.sentence("30: -1 before -4", () -> {
            fitsRefused(2, 0, -1, 1);
            fitsRefused(0, 8, -1, 1);
        });
        CHECKS.sentence("30: -1 before -5", () -> {
            fitsRefused(2, 0, 6, 1);
            fitsRefused(0, -1, 6, 1);
        });
        CHECKS.sentence("30: -2 before -4 and -5", () -> {
            fitsRefused(0, 1, -1, 2);
            fitsRefused(0, 1, 1, 2);
        });
        CHECKS.sentence("30: -3 before -4 and -5", () -> {
            fitsRefused(0, 3, -1, 3);
            fitsRefused(0, 3, 1, 3);
        });
    }

    private static void makes(int k, int turns, int want) {
        DownTheMiddle x = new DownTheMiddle();
        CHECKS.due("make(" + k + ", " + turns + ")", x.make(k, turns), want);
        CHECKS.due("status(0)", x.status(0), 0);
        CHECKS.due("refusals", Told.refusals(x), 0, 0, 0, 0, 0, 0, 0);
    }

    private static void make() {
        CHECKS.sentence("31: 100 times STRIPS and TWISTS", () -> {
            makes(1, 3, 103);
            makes(2, 6, 206);
            makes(5, 12, 512);
        });
        CHECKS.sentence("31: by STRIPS, then TWISTS, the first", () -> {
            makes(1, 4, 104);
            makes(1, 40, 140);
            makes(2, 4, 204);
            makes(6, 4, 604);
        });
        CHECKS.sentence("31: the longest has TURNS as told", () -> {
            makes(2, 44, 321);
            makes(6, 44, 1121);
            makes(2, 80, 339);
            makes(2, 3, -1);
        });
        CHECKS.sentence("31: turns from 0 on", () -> {
            makes(1, 0, 100);
            makes(12, 0, 1200);
        });
        CHECKS.sentence("31: TWISTS 0 to 40", () -> {
            makes(1, 40, 140);
            makes(1, 41, -1);
            makes(1, 42, -1);
            makes(1, 44, 221);
            makes(1, 80, 239);
            makes(1, 84, -1);
            makes(12, 40, 1240);
            makes(12, 42, -1);
        });
        CHECKS.sentence("31: k 1 to 12, STRIPS to 12", () -> {
            makes(1, 39, 139);
            makes(12, 2, 1202);
            makes(11, 2, 1102);
            makes(6, 80, 1139);
            makes(7, 44, -1);
        });
        CHECKS.sentence("31: NONE", () -> {
            makes(2, 7, -1);
            makes(12, 1, -1);
            makes(1, MAX, -1);
            makes(12, MAX, -1);
        });
    }

    private static void makeRefused(int k, int turns) {
        CHECKS.refused(LawsTest::scene, "make(" + k + ", " + turns + ")", x -> x.make(k, turns), 6, 10);
    }

    private static void makeRefusals() {
        CHECKS.sentence("31: -16 k not 1 to 12, counted as -6", () -> {
            makeRefused(0, 0);
            makeRefused(13, 0);
            makeRefused(-1, 0);
            makeRefused(MIN, 0);
            makeRefused(MAX, 0);
        });
        CHECKS.sentence("31: -16 turns below 0, counted as -6", () -> {
            makeRefused(1, -1);
            makeRefused(12, -1);
            makeRefused(1, MIN);
        });
        CHECKS.sentence("31: -16 once for both", () -> makeRefused(13, -1));
    }

    private static void leastTwist() {
        CHECKS.sentence("32: the fewest half twists more", () -> {
            CHECKS.due("even to 3", one(0, 2, 5, 0, 0).leastTwist(0, 3), 1);
            CHECKS.due("odd to 5", one(0, 3, 5, 0, 0).leastTwist(0, 5), 1);
            CHECKS.due("odd to 12", one(0, 1, 12, 0, 0).leastTwist(0, 12), 1);
        });
        CHECKS.sentence("32: 0 as it is", () -> {
            CHECKS.due("odd to 3", one(0, 3, 5, 0, 0).leastTwist(0, 3), 0);
            CHECKS.due("even to 12", one(0, 0, 12, 0, 0).leastTwist(0, 12), 0);
            CHECKS.due("one STRIP to 1", one(0, 0, 1, 0, 0).leastTwist(0, 1), 0);
        });
        CHECKS.sentence("32: NONE", () -> {
            CHECKS.due("to 4", one(0, 3, 5, 0, 0).leastTwist(0, 4), -1);
            CHECKS.due("one STRIP to 2", one(0, 0, 1, 0, 0).leastTwist(0, 2), -1);
            CHECKS.due("five to 12", one(0, 0, 5, 0, 0).leastTwist(0, 12), -1);
            CHECKS.due("PLAIN, whatever its TWISTS", one(4, 0, 5, 0, 0).leastTwist(0, 3), -1);
        });
        CHECKS.sentence("32: TWISTS may be above 9999 by it, and stay as they are", () -> {
            DownTheMiddle x = one(0, 9999, 5, 0, 0);
            CHECKS.due("leastTwist(0, 5)", x.leastTwist(0, 5), 1);
            CHECKS.due("bandOf(0, 1)", x.bandOf(0, 1), 9999);
        });
    }

    private static void leastTwistRefused(int band, int k, int number) {
        CHECKS.refused(LawsTest::scene, "leastTwist(" + band + ", " + k + ")", x -> x.leastTwist(band, k), number, 10);
    }

    private static void leastTwistRefusals() {
        CHECKS.sentence("32: -11 no such BAND, counted as -1", () -> {
            leastTwistRefused(-1, 1, 1);
            leastTwistRefused(2, 1, 1);
            leastTwistRefused(MIN, 1, 1);
            leastTwistRefused(MAX, 1, 1);
        });
        CHECKS.sentence("32: -16 k not 1 to 12, counted as -6", () -> {
            leastTwistRefused(0, 0, 6);
            leastTwistRefused(0, 13, 6);
            leastTwistRefused(0, -1, 6);
            leastTwistRefused(0, MIN, 6);
            leastTwistRefused(0, MAX, 6);
        });
        CHECKS.sentence("32: -11 before -16", () -> {
            leastTwistRefused(2, 0, 1);
            leastTwistRefused(-1, 13, 1);
        });
    }

    private static void most() {
        CHECKS.sentence("33: the number of STRIPS with which it has most HOOKS in all", () -> {
            CHECKS.due("12 at most", one(0, 2, 5, 0, 0).most(0), 12);
            CHECKS.due("whatever STRIPS it has", one(0, 2, 1, 0, 0).most(0), 12);
            CHECKS.due("PLAIN, once to the right", one(4, 1, 5, 1, 0).most(0), 12);
            CHECKS.due("DOUBLE", one(3, 2, 6, 1, 5).most(0), 10);
        });
        CHECKS.sentence("33: of several the least", () -> {
            CHECKS.due("no HOOKS with any: 1", one(0, 0, 5, 0, 0).most(0), 1);
            CHECKS.due("PLAIN, once to the left: 1", one(4, 1, 12, 0, 0).most(0), 1);
        });
        CHECKS.sentence("33: of several that have any the least", () -> {
            for (int a = 0; a < 10; a++) {
                Paper due = new Paper();
                due.band(3, 0, 7, 0, a);
                CHECKS.due("DOUBLE of a " + a, one(3, 0, 7, 0, a).most(0), due.most(0));
            }
        });
        CHECKS.sentence("33: nothing is changed", () -> {
            DownTheMiddle x = scene();
            x.most(0);
            CHECKS.due("all", Told.all(x), Told.all(scene()));
        });
        CHECKS.sentence("33: -1 no such BAND", () -> {
            for (int band : new int[] {-1, 2, 6, MIN, MAX}) {
                CHECKS.refused(LawsTest::scene, "most(" + band + ")", x -> x.most(band), 1);
            }
        });
    }

    private static void crossed(int first, int other, int firstHand, int otherHand, int pieces, int hang) {
        DownTheMiddle x = one(4, first, 9, firstHand, 0);
        x.band(6, other, 2, otherHand, 3);
        String of = first + " across " + other + ", HANDS " + firstHand + " and " + otherHand;
        CHECKS.due("pieces of " + of, x.cross(0, 1, 0), pieces);
        CHECKS.due("whether they hang, of " + of, x.cross(0, 1, 1), hang);
        CHECKS.due("nothing is refused", Told.refusals(x), 0, 0, 0, 0, 0, 0, 0);
    }

    private static void cross() {
        CHECKS.sentence("34: both TWISTS even: one PIECE", () -> {
            crossed(0, 0, 0, 1, 1, 0);
            crossed(2, 4, 1, 0, 1, 0);
        });
        CHECKS.sentence("34: one of them odd: one PIECE", () -> {
            crossed(1, 0, 0, 1, 1, 0);
            crossed(2, 3, 1, 0, 1, 0);
            crossed(9999, 9998, 0, 1, 1, 0);
        });
        CHECKS.sentence("34: both odd: two", () -> {
            crossed(1, 1, 0, 0, 2, 0);
            crossed(9999, 3, 1, 1, 2, 0);
        });
        CHECKS.sentence("34: HANG: two of them and the HANDS are unlike", () -> {
            crossed(1, 1, 0, 1, 2, 1);
            crossed(3, 9999, 1, 0, 2, 1);
        });
        CHECKS.sentence("34: whatever their STRIPS and KINDS", () -> {
            for (int kind = 0; kind < 7; kind++) {
                for (int strips = 1; strips <= 12; strips++) {
                    DownTheMiddle x = one(kind, 1, strips, 0, 1);
                    x.band(6 - kind, 1, 13 - strips, 1, 2);
                    x.band(kind, 0, strips, 1, 2);
                    CHECKS.due("two", x.cross(0, 1, 0), 2);
                    CHECKS.due("two, that hang", x.cross(0, 1, 1), 1);
                    CHECKS.due("one", x.cross(0, 2, 0), 1);
                    CHECKS.due("one the other way about", x.cross(2, 1, 0), 1);
                }
            }
        });
    }

    private static void crossRefused(int band, int other, int what, int number) {
        CHECKS.refused(LawsTest::scene, "cross(" + band + ", " + other + ", " + what + ")",
                x -> x.cross(band, other, what), number);
    }

    private static void crossRefusals() {
        CHECKS.sentence("34: -1 either BAND", () -> {
            for (int none : new int[] {-1, 2, MIN, MAX}) {
                crossRefused(none, 0, 0, 1);
                crossRefused(0, none, 1, 1);
            }
        });
        CHECKS.sentence("34: -5 another what", () -> {
            crossRefused(0, 1, -1, 5);
            crossRefused(0, 1, 2, 5);
            crossRefused(0, 1, MIN, 5);
            crossRefused(0, 1, MAX, 5);
        });
        CHECKS.sentence("34: -6 the same", () -> {
            crossRefused(0, 0, 0, 6);
            crossRefused(1, 1, 1, 6);
        });
        CHECKS.sentence("34: -1 before -5", () -> {
            crossRefused(2, 0, 2, 1);
            crossRefused(0, 2, -1, 1);
        });
        CHECKS.sentence("34: -1 before -6", () -> crossRefused(2, 2, 0, 1));
        CHECKS.sentence("34: -5 before -6", () -> {
            crossRefused(0, 0, 2, 5);
            crossRefused(1, 1, -1, 5);
        });
    }
}
