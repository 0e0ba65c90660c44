/** Promises 35 to 38 and 41 to 43, sentence by sentence: cuts in truth, draws, bands that go, the seed, the image, status. */
public final class TruthTest {
    private static final Checks CHECKS = new Checks("TruthTest");
    private static final int MIN = Integer.MIN_VALUE;
    private static final int MAX = Integer.MAX_VALUE;

    public static void main(String[] args) {
        cut();
        cutRefusals();
        draws();
        drawsOfSeeds();
        drawsRefusals();
        goes();
        seed();
        image();
        restore();
        whatTheImageHasNot();
        status();
        statusOfRefusals();
        CHECKS.finish();
    }

    private static DownTheMiddle one(int kind, int twists, int strips, int hand, int a) {
        return Checks.withBand(kind, twists, strips, hand, a);
    }

    private static void bandIs(DownTheMiddle x, int band, int... want) {
        for (int what = 0; what < 5; what++) {
            CHECKS.due("bandOf(" + band + ", " + what + ")", x.bandOf(band, what), want[what]);
        }
    }

    /** Band 0 in pieces of 2, 2, 1; an image of it; band 1 of one piece; shelves with each. */
    private static DownTheMiddle scene() {
        DownTheMiddle x = one(0, 3, 5, 1, 4);
        x.paint(0, 4, 6);
        x.seed(77);
        x.image();
        x.band(0, 4999, 2, 0, 1);
        x.twist(0, 5);
        x.seed(99);
        x.show(0, 0);
        x.show(1, 1);
        x.row(2, 1, 1);
        x.act(1, 2, 8);
        return x;
    }

    private static void cut() {
        CHECKS.sentence("35: TWISTS are its TURNS: the answer", () -> {
            DownTheMiddle x = one(0, 3, 5, 1, 4);
            CHECKS.due("cut(0, 1)", x.cut(0, 1), 8);
            CHECKS.due("bandOf(0, 1)", x.bandOf(0, 1), 8);
            CHECKS.due("cut(0, 4)", x.cut(0, 4), 8);
            CHECKS.due("the PIECE of one STRIP", one(0, 3, 5, 1, 4).cut(0, 2), 3);
        });
        CHECKS.sentence("35: STRIPS and all else stay", () -> {
            DownTheMiddle x = one(0, 3, 5, 1, 4);
            x.paint(0, 1, 6);
            x.cut(0, 1);
            bandIs(x, 0, 0, 8, 5, 1, 4);
            CHECKS.due("bandOf(0, 11)", x.bandOf(0, 11), 6);
            CHECKS.due("status(0)", x.status(0), 1);
        });
        CHECKS.sentence("35: other BANDS stay", () -> {
            DownTheMiddle x = scene();
            x.cut(0, 0);
            bandIs(x, 1, 0, 4999, 2, 0, 1);
        });
        CHECKS.sentence("35: SNIPS: STRIPS less 1 each time", () -> {
            DownTheMiddle x = one(0, 3, 5, 1, 4);
            x.cut(0, 1);
            CHECKS.due("status(2)", x.status(2), 4);
            x.cut(0, 0);
            CHECKS.due("status(2)", x.status(2), 8);
            x.band(0, 0, 12, 0, 0);
            x.cut(1, 11);
            CHECKS.due("status(2)", x.status(2), 19);
        });
        CHECKS.sentence("35: SNIPS of one STRIP: none", () -> {
            DownTheMiddle x = one(0, 9, 1, 0, 0);
            CHECKS.due("cut(0, 0)", x.cut(0, 0), 9);
            CHECKS.due("status(2)", x.status(2), 0);
            bandIs(x, 0, 0, 9, 1, 0, 0);
        });
        CHECKS.sentence("35: 9999 TURNS at most", () -> {
            CHECKS.due("9999", one(0, 9999, 1, 0, 0).cut(0, 0), 9999);
            CHECKS.due("9999 of many", one(4, 9999, 12, 0, 0).cut(0, 11), 9999);
            CHECKS.due("9998", one(1, 4998, 2, 0, 1).cut(0, 0), 9998);
        });
    }

    private static void cutRefused(int band, int piece, int number) {
        CHECKS.refused(TruthTest::scene, "cut(" + band + ", " + piece + ")", x -> x.cut(band, piece), number);
    }

    private static void cutRefusals() {
        CHECKS.sentence("35: -1 BAND", () -> {
            cutRefused(-1, 0, 1);
            cutRefused(2, 0, 1);
            cutRefused(MIN, 0, 1);
            cutRefused(MAX, 0, 1);
        });
        CHECKS.sentence("35: -1 PIECE", () -> {
            cutRefused(0, -1, 1);
            cutRefused(0, 3, 1);
            cutRefused(1, 1, 1);
            cutRefused(0, MIN, 1);
            cutRefused(0, MAX, 1);
        });
        CHECKS.sentence("35: -7 TURNS above 9999", () -> {
            cutRefused(1, 0, 7);
            CHECKS.refused(() -> one(1, 9998, 12, 0, 1), "119998 TURNS", x -> x.cut(0, 0), 7);
            CHECKS.refused(() -> one(1, 3332, 3, 0, 1), "10000 TURNS of three STRIPS", x -> x.cut(0, 0), 7);
        });
        CHECKS.sentence("35: -1 before -7", () -> cutRefused(1, 2, 1));
    }

    /** A seed by the words of the document, in longs. */
    private static final class Draws {
        long seed;

        Draws(int seed) {
            this.seed = seed & 0xFFFFFFFFL;
        }

        int below(int n) {
            seed = (seed * 1103515245L + 12345L) & 0xFFFFFFFFL;
            return (int) (seed / 65536 % n);
        }
    }

    private static void bandsAreDrawn(DownTheMiddle x, Draws draws, int from, int to) {
        for (int b = from; b < to; b++) {
            CHECKS.due("KIND of " + b, x.bandOf(b, 0), draws.below(7));
            CHECKS.due("TWISTS of " + b, x.bandOf(b, 1), draws.below(9));
            CHECKS.due("STRIPS of " + b, x.bandOf(b, 2), draws.below(12) + 1);
            CHECKS.due("HAND of " + b, x.bandOf(b, 3), draws.below(2));
            CHECKS.due("a of " + b, x.bandOf(b, 4), draws.below(10));
        }
        CHECKS.due("SEED", x.status(3), (int) draws.seed);
    }

    private static void draws() {
        CHECKS.sentence("36: n BANDS by draws, from SEED 1 on at first", () -> {
            DownTheMiddle x = new DownTheMiddle();
            Draws draws = new Draws(1);
            CHECKS.due("draws(1)", x.draws(1), 1);
            bandsAreDrawn(x, draws, 0, 1);
            CHECKS.due("draws(5)", x.draws(5), 5);
            bandsAreDrawn(x, draws, 1, 6);
        });
        CHECKS.sentence("36: n 1 to 6", () -> {
            for (int n = 1; n <= 6; n++) {
                DownTheMiddle x = new DownTheMiddle();
                CHECKS.due("draws(" + n + ")", x.draws(n), n);
                CHECKS.due("status(0)", x.status(0), n);
            }
        });
        CHECKS.sentence("36: until there is no room: how many", () -> {
            for (int there = 1; there <= 6; there++) {
                DownTheMiddle x = new DownTheMiddle();
                for (int b = 0; b < there; b++) {
                    x.band(0, 0, 1, 0, 0);
                }
                Draws draws = new Draws(1);
                CHECKS.due("draws(6) when " + there + " are there", x.draws(6), 6 - there);
                CHECKS.due("status(0)", x.status(0), 6);
                bandsAreDrawn(x, draws, there, 6);
            }
        });
        CHECKS.sentence("36: none, when there is no room, and nothing is drawn from the SEED then", () -> {
            DownTheMiddle x = new DownTheMiddle();
            x.draws(6);
            int seed = x.status(3);
            CHECKS.due("draws(1)", x.draws(1), 0);
            CHECKS.due("status(3)", x.status(3), seed);
            CHECKS.due("refusals", Told.refusals(x), 0, 0, 0, 0, 0, 0, 0);
        });
        CHECKS.sentence("36: over BANDS that are there, with their numbers", () -> {
            DownTheMiddle x = scene();
            Draws draws = new Draws(99);
            CHECKS.due("draws(2)", x.draws(2), 2);
            bandIs(x, 0, 0, 5, 5, 1, 4);
            bandIs(x, 1, 0, 4999, 2, 0, 1);
            bandsAreDrawn(x, draws, 2, 4);
        });
        CHECKS.sentence("36: COLOUR 0 at first, also where another BAND was", () -> {
            DownTheMiddle x = one(0, 0, 12, 0, 0);
            for (int i = 0; i < 12; i++) {
                x.paint(0, i, 7);
            }
            x.goes();
            x.draws(1);
            for (int i = 0; i < x.bandOf(0, 2); i++) {
                CHECKS.due("bandOf(0, " + (10 + i) + ")", x.bandOf(0, 10 + i), 0);
            }
        });
    }

    private static void drawsOfSeeds() {
        CHECKS.sentence("36: SEED times 1103515245, and 12345, wrapping; its upper 16 bits, no sign", () -> {
            int[] seeds = {1, 0, -1, 9, MIN, MAX, MIN + 1, MAX - 1, 123456789, -987654321, 65535, 65536};
            for (int seed : seeds) {
                DownTheMiddle x = new DownTheMiddle();
                x.seed(seed);
                Draws draws = new Draws(seed);
                CHECKS.due("draws(6)", x.draws(6), 6);
                bandsAreDrawn(x, draws, 0, 6);
            }
        });
        CHECKS.sentence("36: by hand: SEED 1 becomes 1103527590, whose upper 16 bits are 16838", () -> {
            DownTheMiddle x = new DownTheMiddle();
            x.draws(1);
            CHECKS.due("bandOf(0, 0)", x.bandOf(0, 0), 16838 % 7);
        });
        CHECKS.sentence("36: by hand: SEED -1 becomes -1103502900, whose upper 16 bits are 48697", () -> {
            DownTheMiddle x = new DownTheMiddle();
            x.seed(-1);
            x.draws(1);
            CHECKS.due("bandOf(0, 0)", x.bandOf(0, 0), 48697 % 7);
        });
        CHECKS.sentence("36: KIND below 7, TWISTS below 9, STRIPS 1 to 12, HAND below 2, a below 10: each comes", () -> {
            int[] least = {0, 0, 1, 0, 0};
            int[] below = {7, 9, 13, 2, 10};
            int[] came = new int[5];
            for (int seed = 0; seed < 400; seed++) {
                DownTheMiddle x = new DownTheMiddle();
                x.seed(seed * 1234567);
                x.draws(1);
                for (int what = 0; what < 5; what++) {
                    CHECKS.holds("in bounds", x.bandOf(0, what) >= least[what] && x.bandOf(0, what) < below[what]);
                    came[what] |= 1 << x.bandOf(0, what);
                }
            }
            for (int what = 0; what < 5; what++) {
                CHECKS.due("all of what " + what, came[what], (1 << below[what]) - (1 << least[what]));
            }
        });
    }

    private static void drawsRefusals() {
        CHECKS.sentence("36: -6 n not 1 to 6", () -> {
            for (int n : new int[] {0, 7, -1, MIN, MAX}) {
                CHECKS.refused(TruthTest::scene, "draws(" + n + ")", x -> x.draws(n), 6);
            }
        });
        CHECKS.sentence("36: -6 also when there is no room", () -> {
            for (int n : new int[] {0, 7}) {
                CHECKS.refused(() -> {
                    DownTheMiddle x = scene();
                    x.draws(4);
                    return x;
                }, "draws(" + n + ")", x -> x.draws(n), 6);
            }
        });
    }

    private static void goes() {
        CHECKS.sentence("37: the last BAND goes: how many are left", () -> {
            DownTheMiddle x = scene();
            CHECKS.due("goes()", x.goes(), 1);
            CHECKS.due("status(0)", x.status(0), 1);
            CHECKS.due("pieces(1)", x.pieces(1), -1);
            bandIs(x, 0, 0, 5, 5, 1, 4);
            CHECKS.due("goes()", x.goes(), 0);
            CHECKS.due("status(0)", x.status(0), 0);
        });
        CHECKS.sentence("37: the last of six", () -> {
            DownTheMiddle x = new DownTheMiddle();
            x.draws(6);
            CHECKS.due("goes()", x.goes(), 5);
        });
        CHECKS.sentence("37: SHELVES that hold it hold NOTHING, all else stays", () -> {
            DownTheMiddle x = scene();
            for (int s = 3; s < 8; s++) {
                x.show(s, s % 2);
            }
            x.goes();
            int[] due = {0, -1, 101, -1, 0, -1, 0, -1};
            for (int s = 0; s < 8; s++) {
                CHECKS.due("holds(" + s + ")", x.holds(s), due[s]);
            }
        });
        CHECKS.sentence("37: and go on to hold NOTHING when a BAND of that number is made", () -> {
            DownTheMiddle x = scene();
            x.goes();
            CHECKS.due("band(2, 3, 4, 1, 5)", x.band(2, 3, 4, 1, 5), 1);
            CHECKS.due("holds(1)", x.holds(1), -1);
            CHECKS.due("says(1, 0)", x.says(1, 0), -3);
        });
        CHECKS.sentence("37: SEED, SNIPS and the IMAGE stay", () -> {
            DownTheMiddle x = scene();
            x.cut(0, 0);
            x.goes();
            CHECKS.due("status(2)", x.status(2), 4);
            CHECKS.due("status(3)", x.status(3), 99);
            CHECKS.due("restore()", x.restore(), 1);
        });
        CHECKS.sentence("37: -6 there is none", () -> {
            CHECKS.refused(DownTheMiddle::new, "goes()", x -> x.goes(), 6);
            CHECKS.refused(() -> {
                DownTheMiddle x = scene();
                x.goes();
                x.goes();
                return x;
            }, "goes()", x -> x.goes(), 6);
        });
    }

    private static void seed() {
        CHECKS.sentence("38: SEED becomes v: what it was, 1 at first", () -> {
            DownTheMiddle x = new DownTheMiddle();
            CHECKS.due("seed(-5)", x.seed(-5), 1);
            CHECKS.due("seed(8)", x.seed(8), -5);
            CHECKS.due("status(3)", x.status(3), 8);
        });
        CHECKS.sentence("38: nothing is refused: any v, also of the answers of refusals", () -> {
            DownTheMiddle x = new DownTheMiddle();
            int before = 1;
            for (int v : new int[] {MIN, MAX, 0, -1, -6, -7, 65536}) {
                CHECKS.due("seed(" + v + ")", x.seed(v), before);
                CHECKS.due("status(3)", x.status(3), v);
                before = v;
            }
            CHECKS.due("refusals", Told.refusals(x), 0, 0, 0, 0, 0, 0, 0);
        });
        CHECKS.sentence("38: SEED as the draws leave it", () -> {
            DownTheMiddle x = new DownTheMiddle();
            x.draws(1);
            Draws draws = new Draws(1);
            for (int k = 0; k < 5; k++) {
                draws.below(2);
            }
            CHECKS.due("seed(0)", x.seed(0), (int) draws.seed);
        });
    }

    private static void image() {
        CHECKS.sentence("41: THE IMAGE is taken: how many BANDS", () -> {
            DownTheMiddle x = new DownTheMiddle();
            for (int bands = 0; bands <= 6; bands++) {
                CHECKS.due("image()", x.image(), bands);
                x.band(0, 0, 1, 0, 0);
            }
        });
        CHECKS.sentence("41: nothing else is changed, nothing is refused", () -> {
            DownTheMiddle x = scene();
            x.image();
            CHECKS.due("all", Told.all(x), Told.all(scene()));
            CHECKS.due("refusals", Told.refusals(x), 0, 0, 0, 0, 0, 0, 0);
        });
        CHECKS.sentence("41: an IMAGE of no BANDS is one", () -> {
            DownTheMiddle x = new DownTheMiddle();
            x.image();
            x.draws(3);
            x.show(0, 2);
            CHECKS.due("restore()", x.restore(), 0);
            CHECKS.due("status(0)", x.status(0), 0);
            CHECKS.due("holds(0)", x.holds(0), -1);
            CHECKS.due("status(3)", x.status(3), 1);
        });
        CHECKS.sentence("41: of six BANDS, each with all its STRIPS' COLOURS", () -> {
            DownTheMiddle x = new DownTheMiddle();
            for (int b = 0; b < 6; b++) {
                x.band(b, b * 1999, 12 - b, b % 2, 9 - b);
                for (int i = 0; i < 12 - b; i++) {
                    x.paint(b, i, (b + i) % 8);
                }
            }
            x.image();
            long[] before = Told.bands(x);
            for (int b = 0; b < 6; b++) {
                x.goes();
            }
            x.draws(6);
            CHECKS.due("restore()", x.restore(), 6);
            CHECKS.due("bands", Told.bands(x), before);
        });
        CHECKS.sentence("41: the latest one counts", () -> {
            DownTheMiddle x = scene();
            CHECKS.due("image()", x.image(), 2);
            x.goes();
            x.goes();
            CHECKS.due("restore()", x.restore(), 2);
            bandIs(x, 0, 0, 5, 5, 1, 4);
            bandIs(x, 1, 0, 4999, 2, 0, 1);
        });
        CHECKS.sentence("41: a later one of fewer BANDS", () -> {
            DownTheMiddle x = scene();
            x.image();
            x.goes();
            CHECKS.due("image()", x.image(), 1);
            x.draws(3);
            CHECKS.due("restore()", x.restore(), 1);
            CHECKS.due("status(0)", x.status(0), 1);
        });
    }

    private static void restore() {
        CHECKS.sentence("42: all is as THE IMAGE has it: how many BANDS", () -> {
            DownTheMiddle x = scene();
            x.turn(0);
            x.cut(0, 0);
            x.paint(0, 4, 1);
            x.paint(0, 0, 2);
            CHECKS.due("restore()", x.restore(), 1);
            bandIs(x, 0, 0, 3, 5, 1, 4);
            CHECKS.due("bandOf(0, 14)", x.bandOf(0, 14), 6);
            CHECKS.due("bandOf(0, 10)", x.bandOf(0, 10), 0);
            CHECKS.due("SNIPS", x.status(2), 0);
            CHECKS.due("SEED", x.status(3), 77);
            CHECKS.due("BANDS", x.status(0), 1);
        });
        CHECKS.sentence("42: SNIPS that were cut ahead of it", () -> {
            DownTheMiddle x = one(0, 3, 5, 1, 4);
            x.cut(0, 0);
            x.image();
            x.cut(0, 0);
            x.restore();
            CHECKS.due("status(2)", x.status(2), 4);
        });
        CHECKS.sentence("42: SHELVES with BANDS hold those of these numbers, or NOTHING", () -> {
            DownTheMiddle x = scene();
            x.draws(4);
            for (int s = 0; s < 6; s++) {
                x.show(s, s);
            }
            x.row(6, 3, 2);
            x.restore();
            for (int s = 0; s < 8; s++) {
                CHECKS.due("holds(" + s + ")", x.holds(s), s == 0 ? 0 : s == 6 ? 103 : -1);
            }
            CHECKS.due("says(0, 0)", x.says(0, 0), 3);
        });
        CHECKS.sentence("42: also of a number that another KIND had", () -> {
            DownTheMiddle x = scene();
            x.goes();
            x.goes();
            x.band(6, 9, 9, 0, 9);
            x.show(5, 0);
            CHECKS.due("says(5, 6)", x.says(5, 6), 9);
            x.restore();
            CHECKS.due("holds(5)", x.holds(5), 0);
            CHECKS.due("says(5, 6)", x.says(5, 6), -2);
        });
        CHECKS.sentence("42: more BANDS than there are come back", () -> {
            DownTheMiddle x = scene();
            x.goes();
            x.goes();
            CHECKS.due("restore()", x.restore(), 1);
            bandIs(x, 0, 0, 3, 5, 1, 4);
            CHECKS.due("a SHELF that has held it holds NOTHING", x.holds(0), -1);
        });
        CHECKS.sentence("42: again and again", () -> {
            DownTheMiddle x = scene();
            x.restore();
            x.twist(0, 60);
            x.paint(0, 4, 2);
            x.turn(0);
            CHECKS.due("restore()", x.restore(), 1);
            bandIs(x, 0, 0, 3, 5, 1, 4);
            CHECKS.due("bandOf(0, 14)", x.bandOf(0, 14), 6);
        });
        CHECKS.sentence("42: -6 there is none", () -> CHECKS.refused(() -> {
            DownTheMiddle x = one(0, 3, 5, 1, 4);
            x.show(0, 0);
            return x;
        }, "restore()", x -> x.restore(), 6));
    }

    private static void whatTheImageHasNot() {
        CHECKS.sentence("41: not SHELVES", () -> {
            DownTheMiddle x = scene();
            Checks.numbers(x, 2, 3, 1, 2, 3);
            x.show(5, 0);
            x.restore();
            CHECKS.due("holds(2)", x.holds(2), 103);
            CHECKS.due("element(2, 2)", x.element(2, 2), 3);
            CHECKS.due("holds(5)", x.holds(5), 0);
        });
        CHECKS.sentence("41: not THE IMAGE itself", () -> {
            DownTheMiddle x = scene();
            x.restore();
            CHECKS.due("restore() again", x.restore(), 1);
        });
        CHECKS.sentence("41: not REFUSALS", () -> {
            DownTheMiddle x = scene();
            x.turn(9);
            x.twist(0, -1);
            x.restore();
            CHECKS.due("refusals", Told.refusals(x), 1, 0, 0, 0, 0, 1, 0);
        });
        CHECKS.sentence("41: not the FAULT", () -> {
            DownTheMiddle x = scene();
            Checks.table(x, "left 9");
            x.restore();
            CHECKS.due("fault()", x.fault(), 5);
        });
        CHECKS.sentence("41: not THE TRACE", () -> {
            DownTheMiddle x = scene();
            x.act(0, 1, 0);
            x.restore();
            CHECKS.due("status(4)", x.status(4), 2);
            CHECKS.due("trace(0)", x.trace(0), 11);
            CHECKS.due("trace(1)", x.trace(1), 10);
        });
    }

    private static void status() {
        CHECKS.sentence("43: 0 BANDS", () -> {
            DownTheMiddle x = new DownTheMiddle();
            for (int b = 0; b < 6; b++) {
                CHECKS.due("status(0)", x.status(0), b);
                x.band(0, 0, 1, 0, 0);
            }
            CHECKS.due("status(0)", x.status(0), 6);
        });
        CHECKS.sentence("43: 1 PIECES of all", () -> {
            CHECKS.due("of none", new DownTheMiddle().status(1), 0);
            CHECKS.due("3 and 1", scene().status(1), 4);
            DownTheMiddle x = new DownTheMiddle();
            for (int b = 0; b < 6; b++) {
                x.band(0, 2, 12, 0, 0);
            }
            CHECKS.due("72", x.status(1), 72);
            x.twist(5, 1);
            CHECKS.due("66", x.status(1), 66);
            x.goes();
            CHECKS.due("60", x.status(1), 60);
        });
        CHECKS.sentence("43: 2 SNIPS", () -> {
            DownTheMiddle x = one(0, 2, 12, 0, 0);
            CHECKS.due("status(2)", x.status(2), 0);
            x.cut(0, 0);
            CHECKS.due("status(2)", x.status(2), 11);
        });
        CHECKS.sentence("43: 3 SEED", () -> CHECKS.due("status(3)", scene().status(3), 99));
        CHECKS.sentence("43: 4 bodies that ran in the latest act()", () -> {
            DownTheMiddle x = one(6, 0, 1, 0, 4);
            CHECKS.due("none yet", x.status(4), 0);
            x.act(0, 2, 1);
            CHECKS.due("LAST hooks", x.status(4), 10);
            x.act(0, 0, 1);
            CHECKS.due("LAST goes", x.status(4), 3);
            x.act(0, 3, 1);
            CHECKS.due("no such ACT", x.status(4), 0);
        });
        CHECKS.sentence("43: NONE for another what, and it isn't refused", () -> {
            DownTheMiddle x = scene();
            for (int what : new int[] {-1, 5, 6, 7, 8, 9, 10, 18, MIN, MAX}) {
                CHECKS.due("status(" + what + ")", x.status(what), -1);
            }
            CHECKS.due("refusals", Told.refusals(x), 0, 0, 0, 0, 0, 0, 0);
        });
    }

    private static void statusOfRefusals() {
        CHECKS.sentence("43: 11 to 17: REFUSALS -1 to -7, how many", () -> {
            DownTheMiddle x = scene();
            for (int k = 0; k < 2; k++) {
                x.turn(9);
            }
            for (int k = 0; k < 3; k++) {
                x.set(0, 0, 0);
            }
            for (int k = 0; k < 4; k++) {
                x.set(7, 0, 0);
            }
            for (int k = 0; k < 5; k++) {
                x.row(0, 0, -1);
            }
            for (int k = 0; k < 6; k++) {
                x.bandOf(0, 9);
            }
            for (int k = 0; k < 7; k++) {
                x.twist(0, -1);
            }
            for (int k = 0; k < 8; k++) {
                x.row(0, 0, 161);
            }
            CHECKS.due("refusals", Told.refusals(x), 2, 3, 4, 5, 6, 7, 8);
        });
        CHECKS.sentence("43: those that are answered off are counted under the same numbers", () -> {
            DownTheMiddle x = scene();
            x.judge(9, 0, 0);
            x.judge(0, 0, 0);
            x.judge(0, 7, 0);
            x.judge(0, 2, -1);
            x.judge(0, 2, 2);
            x.make(0, 0);
            x.leastTwist(9, 1);
            x.leastTwist(0, 0);
            x.crossings(9, 0, 1);
            x.crossings(0, 0, 0);
            x.hooks(9, 0, 1);
            x.hooks(0, 0, 0);
            CHECKS.due("refusals", Told.refusals(x), 4, 1, 1, 1, 1, 4, 0);
        });
        CHECKS.sentence("43: many of one", () -> {
            DownTheMiddle x = new DownTheMiddle();
            for (int k = 0; k < 500; k++) {
                x.goes();
            }
            CHECKS.due("status(16)", x.status(16), 500);
        });
        CHECKS.sentence("43: what is not refused is not counted", () -> {
            DownTheMiddle x = scene();
            x.holds(9);
            x.element(9, 9);
            x.trace(-1);
            x.status(99);
            x.act(9, 9, 9);
            x.leastTwist(0, 12);
            x.make(12, 1);
            CHECKS.due("refusals", Told.refusals(x), 0, 0, 0, 0, 0, 0, 0);
        });
    }
}
