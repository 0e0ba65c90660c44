import java.util.function.Supplier;

/** Promises 14 and 15, sentence by sentence: tables, and their faults. */
public final class TableTest {
    private static final Checks CHECKS = new Checks("TableTest");
    private static final int MIN = Integer.MIN_VALUE;
    private static final int MAX = Integer.MAX_VALUE;
    private static final String[] WORDS = {"band", "right", "left", "paint", "twist"};

    public static void main(String[] args) {
        items();
        itemsInTurn();
        textsInTurn();
        numbersThatMayBe();
        numbersThatMayNotBe();
        digits();
        words();
        blanks();
        ends();
        elements();
        allOrNothing();
        room();
        refusals();
        fault();
        CHECKS.finish();
    }

    /** Band 0 of 3 strips, to the right, and band 1 of 12, to the left; an image of the first. */
    private static DownTheMiddle twoBands() {
        DownTheMiddle x = Checks.withBand(0, 1, 3, 1, 0);
        x.image();
        x.band(1, 2, 12, 0, 5);
        x.paint(0, 2, 6);
        x.show(1, 0);
        return x;
    }

    private static DownTheMiddle sixBands() {
        DownTheMiddle x = twoBands();
        for (int b = 2; b < 6; b++) {
            x.band(b, b, b, 0, b);
        }
        return x;
    }

    private static Supplier<DownTheMiddle> with(Supplier<DownTheMiddle> scene, String text) {
        return () -> {
            DownTheMiddle x = scene.get();
            Checks.letters(x, 7, 0, text);
            return x;
        };
    }

    private static void faultOver(Supplier<DownTheMiddle> scene, String text, int place) {
        CHECKS.refusedByFault(with(scene, text), "table(" + text + ")", x -> x.table(7), place);
    }

    private static void fault(String text, int place) {
        faultOver(TableTest::twoBands, text, place);
    }

    private static DownTheMiddle told(String text, int items) {
        DownTheMiddle x = with(TableTest::twoBands, text).get();
        CHECKS.due("table(" + text + ")", x.table(7), items);
        CHECKS.due("fault of " + text, x.fault(), -1);
        CHECKS.due("refusals", Told.refusals(x), 0, 0, 0, 0, 0, 0, 0);
        return x;
    }

    private static void bandIs(DownTheMiddle x, int band, int... want) {
        for (int what = 0; what < 5; what++) {
            CHECKS.due("bandOf(" + band + ", " + what + ")", x.bandOf(band, what), want[what]);
        }
    }

    private static void items() {
        CHECKS.sentence("14: band K H N A: KIND, TWISTS, STRIPS, a; HAND left", () -> {
            DownTheMiddle x = told("band 3 41 7 8", 1);
            CHECKS.due("status(0)", x.status(0), 3);
            bandIs(x, 2, 3, 41, 7, 0, 8);
        });
        CHECKS.sentence("14: right B: its HAND is right, whatever it was", () -> {
            bandIs(told("right 1", 1), 1, 1, 2, 12, 1, 5);
            bandIs(told("right 0", 1), 0, 0, 1, 3, 1, 0);
        });
        CHECKS.sentence("14: left B: its HAND is left, whatever it was", () -> {
            bandIs(told("left 0", 1), 0, 0, 1, 3, 0, 0);
            bandIs(told("left 1", 1), 1, 1, 2, 12, 0, 5);
        });
        CHECKS.sentence("14: paint B S C", () -> {
            DownTheMiddle x = told("paint 0 2 5", 1);
            CHECKS.due("bandOf(0, 12)", x.bandOf(0, 12), 5);
            CHECKS.due("bandOf(0, 11)", x.bandOf(0, 11), 0);
            CHECKS.due("bandOf(1, 12)", x.bandOf(1, 12), 0);
            CHECKS.due("paint 0 2 0", told("paint 0 2 0", 1).bandOf(0, 12), 0);
        });
        CHECKS.sentence("14: twist B N: its TWISTS become N", () -> {
            bandIs(told("twist 1 77", 1), 1, 1, 77, 12, 0, 5);
            bandIs(told("twist 1 77", 1), 0, 0, 1, 3, 1, 0);
        });
        CHECKS.sentence("14: the STRIPS of a new BAND have COLOUR 0, also where another BAND was", () -> {
            DownTheMiddle x = twoBands();
            x.paint(1, 4, 3);
            x.goes();
            CHECKS.due("table", Checks.table(x, "band 0 0 12 0"), 1);
            for (int i = 0; i < 12; i++) {
                CHECKS.due("bandOf(1, " + (10 + i) + ")", x.bandOf(1, 10 + i), 0);
            }
        });
    }

    private static void itemsInTurn() {
        CHECKS.sentence("14: how many ITEMS: one", () -> told("left 0", 1));
        CHECKS.sentence("14: any number of times ; and ITEM: as many as a ROW has room for", () -> {
            told("left 0;left 1", 2);
            told("left 0;left 1;left 0", 3);
            bandIs(told("left 1" + ";left 1".repeat(21) + ";left 0", 23), 0, 0, 1, 3, 0, 0);
        });
        CHECKS.sentence("14: 160 letters, the last of them, too", () -> {
            String text = "right 0" + ";left 0".repeat(20) + ";twist 0 9999";
            CHECKS.due("how many letters", text.length(), 160);
            bandIs(told(text, 22), 0, 0, 9999, 3, 0, 0);
        });
        CHECKS.sentence("14: ITEMS are told in turn", () -> {
            DownTheMiddle x = told("twist 0 5;twist 0 6;right 1;left 1;right 1;paint 0 0 1;paint 0 0 2", 7);
            bandIs(x, 0, 0, 6, 3, 1, 0);
            bandIs(x, 1, 1, 2, 12, 1, 5);
            CHECKS.due("bandOf(0, 10)", x.bandOf(0, 10), 2);
        });
        CHECKS.sentence("14: all is told over what there is: a BAND of the text has the next number", () -> {
            DownTheMiddle x = told("band 6 3 4 1;right 2;paint 2 3 7;twist 2 9", 4);
            bandIs(x, 2, 6, 9, 4, 1, 1);
            CHECKS.due("bandOf(2, 13)", x.bandOf(2, 13), 7);
            bandIs(x, 0, 0, 1, 3, 1, 0);
        });
        CHECKS.sentence("14: a table over none", () -> {
            DownTheMiddle x = new DownTheMiddle();
            CHECKS.due("table", Checks.table(x, "band 0 0 1 0;right 0"), 2);
            bandIs(x, 0, 0, 0, 1, 1, 0);
        });
        CHECKS.sentence("14: six BANDS of one text", () -> {
            DownTheMiddle x = new DownTheMiddle();
            CHECKS.due("table", Checks.table(x, "band 0 0 1 0;band 1 1 2 1;band 2 2 3 2;band 3 3 4 3;band 4 4 5 4;band 5 5 6 5;right 5"), 7);
            bandIs(x, 5, 5, 5, 6, 1, 5);
            CHECKS.due("status(0)", x.status(0), 6);
        });
    }

    private static void textsInTurn() {
        CHECKS.sentence("14: only the ITEMS of this text, not those of a longer one before it", () -> {
            DownTheMiddle x = told("left 0;left 1;twist 0 5;right 1;paint 0 0 1;band 0 0 1 0", 6);
            x.twist(0, 8);
            x.turn(1);
            x.paint(0, 0, 2);
            CHECKS.due("table", Checks.table(x, "right 0"), 1);
            CHECKS.due("table", Checks.table(x, "left 0;left 1"), 2);
            CHECKS.due("table", Checks.table(x, "left 0;left 1;left 2;left 2"), 4);
            CHECKS.due("table", Checks.table(x, "left 0;left 1;left 2;left 2;left 2"), 5);
            bandIs(x, 0, 0, 8, 3, 0, 0);
            bandIs(x, 1, 1, 2, 12, 0, 5);
            CHECKS.due("bandOf(0, 10)", x.bandOf(0, 10), 2);
            CHECKS.due("status(0)", x.status(0), 3);
        });
        CHECKS.sentence("14: not those of a text with a FAULT before it", () -> {
            DownTheMiddle x = with(TableTest::twoBands, "left 1;twist 0 5;right 1;band 0 0 1 0;x").get();
            CHECKS.due("table(7)", x.table(7), -6);
            CHECKS.due("table", Checks.table(x, "left 0"), 1);
            CHECKS.due("table", Checks.table(x, "left 0;left 0"), 2);
            CHECKS.due("table", Checks.table(x, "left 0;left 0;left 0"), 3);
            bandIs(x, 0, 0, 1, 3, 0, 0);
            bandIs(x, 1, 1, 2, 12, 0, 5);
            CHECKS.due("status(0)", x.status(0), 2);
        });
        CHECKS.sentence("14: over what there is then, not over what a text before it spoke of", () -> {
            DownTheMiddle x = with(TableTest::twoBands, "band 0 0 12 0;band 0 0 12 0;x").get();
            CHECKS.due("table(7)", x.table(7), -6);
            CHECKS.due("table of a BAND that was not told", Checks.table(x, "left 2"), -6);
            CHECKS.due("fault()", x.fault(), 5);
            x.goes();
            CHECKS.due("table of a BAND that has gone", Checks.table(x, "left 1"), -6);
            CHECKS.due("fault()", x.fault(), 5);
            CHECKS.due("one of fewer STRIPS in its place", x.band(0, 0, 2, 0, 0), 1);
            CHECKS.due("table", Checks.table(x, "paint 1 2 1"), -6);
            CHECKS.due("fault()", x.fault(), 8);
            CHECKS.due("table", Checks.table(x, "paint 1 1 1"), 1);
        });
        CHECKS.sentence("14: there is room for four more BANDS in a second text, too", () -> {
            DownTheMiddle x = with(TableTest::twoBands, "band 0 0 1 0;band 0 0 1 0;band 0 0 1 0;x").get();
            CHECKS.due("table(7)", x.table(7), -6);
            CHECKS.due("table", Checks.table(x, "band 0 0 1 0;band 0 0 1 0;band 0 0 1 0;band 0 0 1 0"), 4);
            CHECKS.due("status(0)", x.status(0), 6);
        });
    }

    private static void numbersThatMayBe() {
        CHECKS.sentence("14: KIND 0 to 6", () -> {
            bandIs(told("band 0 1 2 3", 1), 2, 0, 1, 2, 0, 3);
            bandIs(told("band 6 1 2 3", 1), 2, 6, 1, 2, 0, 3);
        });
        CHECKS.sentence("14: TWISTS 0 to 9999", () -> {
            bandIs(told("band 4 0 2 3", 1), 2, 4, 0, 2, 0, 3);
            bandIs(told("band 4 9999 2 3", 1), 2, 4, 9999, 2, 0, 3);
            bandIs(told("twist 0 0", 1), 0, 0, 0, 3, 1, 0);
            bandIs(told("twist 0 9999", 1), 0, 0, 9999, 3, 1, 0);
        });
        CHECKS.sentence("14: STRIPS 1 to 12", () -> {
            bandIs(told("band 4 1 1 3", 1), 2, 4, 1, 1, 0, 3);
            bandIs(told("band 4 1 12 3", 1), 2, 4, 1, 12, 0, 3);
        });
        CHECKS.sentence("14: a 0 to 9", () -> {
            bandIs(told("band 4 1 2 0", 1), 2, 4, 1, 2, 0, 0);
            bandIs(told("band 4 1 2 9", 1), 2, 4, 1, 2, 0, 9);
        });
        CHECKS.sentence("14: a STRIP that is there", () -> {
            CHECKS.due("bandOf(0, 10)", told("paint 0 0 7", 1).bandOf(0, 10), 7);
            CHECKS.due("bandOf(0, 12)", told("paint 0 2 7", 1).bandOf(0, 12), 7);
            CHECKS.due("bandOf(1, 21)", told("paint 1 11 7", 1).bandOf(1, 21), 7);
            CHECKS.due("bandOf(2, 10)", told("band 0 0 1 0;paint 2 0 7", 2).bandOf(2, 10), 7);
        });
        CHECKS.sentence("14: COLOUR 0 to 7", () -> {
            CHECKS.due("bandOf(0, 12)", told("paint 0 2 0", 1).bandOf(0, 12), 0);
            CHECKS.due("bandOf(0, 12)", told("paint 0 2 7", 1).bandOf(0, 12), 7);
        });
    }

    private static void numbersThatMayNotBe() {
        CHECKS.sentence("15: of a KIND that may not be the place of its first digit", () -> {
            fault("band 7 0 1 0", 5);
            fault("band 9 0 1 0", 5);
            fault("band 10 0 1 0", 5);
            fault("band 0007 0 1 0", 5);
        });
        CHECKS.sentence("15: of STRIPS that may not be the place of their first digit", () -> {
            fault("band 0 0 0 0", 9);
            fault("band 0 0 13 0", 9);
            fault("band 0 11 0000 0", 10);
            fault("band 0 0 9999 0", 9);
        });
        CHECKS.sentence("15: of an a that may not be the place of its first digit", () -> {
            fault("band 0 0 1 10", 11);
            fault("band 0 0 12 0010", 12);
        });
        CHECKS.sentence("15: of a BAND that isn't there the place of its first digit", () -> {
            fault("right 2", 6);
            fault("left 2", 5);
            fault("paint 2 0 0", 6);
            fault("twist 2 0", 6);
            fault("right 10", 6);
            faultOver(DownTheMiddle::new, "right 0", 6);
            faultOver(DownTheMiddle::new, "left 0", 5);
            faultOver(DownTheMiddle::new, "paint 0 0 0", 6);
            faultOver(DownTheMiddle::new, "twist 0 0", 6);
        });
        CHECKS.sentence("15: of a STRIP that isn't there the place of its first digit", () -> {
            fault("paint 0 3 0", 8);
            fault("paint 0 10 0", 8);
            fault("paint 1 12 0", 8);
            fault("band 0 0 5 0;paint 2 5 1", 21);
        });
        CHECKS.sentence("15: of a COLOUR that may not be the place of its first digit", () -> {
            fault("paint 0 0 8", 10);
            fault("paint 1 11 0010", 11);
        });
        CHECKS.sentence("15: a BAND is there only behind the ITEM that makes it", () -> {
            fault("right 2;band 0 0 5 0", 6);
            fault("band 0 0 5 0;right 3", 19);
            told("band 0 0 5 0;right 2", 2);
        });
        CHECKS.sentence("15: the first of two faults", () -> {
            fault("band 7 0 13 0", 5);
            fault("left 2;left 3", 5);
            fault("paint 0 3 8", 8);
        });
    }

    private static void digits() {
        CHECKS.sentence("15: NUMBERS of 1 to 4 digits may be", () -> {
            bandIs(told("twist 0 7", 1), 0, 0, 7, 3, 1, 0);
            bandIs(told("twist 0 07", 1), 0, 0, 7, 3, 1, 0);
            bandIs(told("twist 0 007", 1), 0, 0, 7, 3, 1, 0);
            bandIs(told("twist 0 0007", 1), 0, 0, 7, 3, 1, 0);
            bandIs(told("twist 0000 1234", 1), 0, 0, 1234, 3, 1, 0);
            bandIs(told("band 0006 0000 0012 0009", 1), 2, 6, 0, 12, 0, 9);
        });
        CHECKS.sentence("15: a fifth digit can't stand", () -> {
            fault("twist 0 99990", 12);
            fault("twist 0 00007", 12);
            fault("band 0 10000 1 0", 11);
            fault("band 00000 0 1 0", 9);
            fault("right 00001", 10);
        });
        CHECKS.sentence("15: no digit at all can't be", () -> {
            fault("twist 0 x", 8);
            fault("twist x", 6);
            fault("twist 0 -1", 8);
            fault("twist 0 +1", 8);
            fault("twist 0 /", 8);
            fault("twist 0 :", 8);
        });
        CHECKS.sentence("15: what isn't a digit can't stand in a NUMBER", () -> {
            fault("twist 0 1x", 9);
            fault("twist 0 1/", 9);
            fault("twist 0 1:", 9);
            fault("twist 0 9999x", 12);
        });
    }

    private static void words() {
        for (String word : WORDS) {
            CHECKS.sentence("15: the word " + word + ", letter by letter", () -> {
                for (int letters = 1; letters < word.length(); letters++) {
                    String begun = word.substring(0, letters);
                    fault(begun, letters);
                    fault(begun + "x0", letters);
                    fault(begun + "; 0", letters);
                    fault("left 0;" + begun + " 0", 7 + letters);
                }
            });
        }
        CHECKS.sentence("15: no word begins so", () -> {
            fault("x", 0);
            fault("Left 0", 0);
            fault("0", 0);
            fault(" left 0", 0);
            fault(";left 0", 0);
            fault("left 0;x", 7);
            fault("left 0;Left 0", 7);
        });
    }

    private static void blanks() {
        CHECKS.sentence("15: one blank between words and NUMBERS, not none", () -> {
            for (String word : WORDS) {
                fault(word, word.length());
                fault(word + "0", word.length());
                fault("left 0;" + word + ";", 7 + word.length());
            }
            fault("twist 0", 7);
            fault("paint 0 0", 9);
            fault("band 0 0 1", 10);
        });
        CHECKS.sentence("15: one blank, not two, and no other sign", () -> {
            for (String word : WORDS) {
                fault(word + "  0", word.length() + 1);
                fault(word + "\t0", word.length());
            }
            fault("twist 0  1", 8);
            fault("twist 0,1", 7);
            fault("band 0 0  1 0", 9);
        });
        CHECKS.sentence("15: no blank at an ITEM's ends", () -> {
            fault("left 0 ", 6);
            fault("left 0 ;left 1", 6);
            fault("left 0; left 1", 7);
            fault("left 0 0", 6);
            fault("band 0 0 1 0 0", 12);
        });
    }

    private static void ends() {
        CHECKS.sentence("15: the number of elements, if it ends too early", () -> {
            fault("", 0);
            fault("l", 1);
            fault("left", 4);
            fault("left ", 5);
            fault("left 0;", 7);
            fault("left 0;l", 8);
            fault("paint 0 0 ", 10);
            fault("band 0 0 1 ", 11);
            faultOver(DownTheMiddle::new, "", 0);
        });
        CHECKS.sentence("15: 160 elements that end too early", () -> {
            String text = "left 0" + ";left 0".repeat(20) + ";twist 0 9999;";
            CHECKS.due("how many letters", text.length(), 160);
            DownTheMiddle x = with(TableTest::twoBands, text).get();
            CHECKS.due("table(" + text + ")", x.table(7), -6);
            CHECKS.due("fault()", x.fault(), 160);
            bandIs(x, 0, 0, 1, 3, 1, 0);
        });
        CHECKS.sentence("15: ; and ITEM, and nothing else behind an ITEM", () -> {
            fault("left 0;;left 1", 7);
            fault("left 0,left 1", 6);
            fault("left 0left 1", 6);
            fault("left 0\nleft 1", 6);
            fault("left 0:", 6);
        });
        CHECKS.sentence("15: the last of 160 elements", () -> {
            String text = "left 0" + ";left 0".repeat(21) + ";left ";
            DownTheMiddle x = with(TableTest::twoBands, text + "2").get();
            CHECKS.due("table(" + text + "2)", x.table(7), -6);
            CHECKS.due("fault()", x.fault(), 159);
        });
    }

    private static void elements() {
        CHECKS.sentence("14: a ROW of any SORT, in any SHELF", () -> {
            for (int sort = 0; sort < 4; sort++) {
                for (int s = 0; s < 8; s += 7) {
                    DownTheMiddle x = twoBands();
                    Checks.letters(x, s, sort, "band 0 1 2 3");
                    CHECKS.due("table(" + s + ") of SORT " + sort, x.table(s), 1);
                    bandIs(x, 2, 0, 1, 2, 0, 3);
                }
            }
        });
        CHECKS.sentence("14: of longs the lowest 32 bits", () -> {
            DownTheMiddle x = twoBands();
            Checks.letters(x, 3, 3, "left 0");
            x.set(3, 0, (7L << 32) + 'l');
            x.set(3, 5, (-1L << 32) + '0');
            CHECKS.due("table(3)", x.table(3), 1);
            bandIs(x, 0, 0, 1, 3, 0, 0);
        });
        CHECKS.sentence("14: but all of these", () -> {
            for (int sort = 1; sort < 4; sort++) {
                int of = sort;
                CHECKS.refusedByFault(() -> {
                    DownTheMiddle x = twoBands();
                    Checks.letters(x, 3, of, "left 0");
                    x.set(3, 1, 256 + 'e');
                    return x;
                }, "table(3) of SORT " + sort, x -> x.table(3), 1);
            }
        });
        CHECKS.sentence("14: what was put into bytes has kept its lowest bits", () -> {
            DownTheMiddle x = twoBands();
            Checks.letters(x, 3, 0, "left 0");
            x.set(3, 1, 256 + 'e');
            CHECKS.due("table(3)", x.table(3), 1);
        });
        CHECKS.sentence("15: an element that is no letter", () -> {
            for (long v : new long[] {0, -1, 1, 128, Long.MIN_VALUE}) {
                CHECKS.refusedByFault(() -> {
                    DownTheMiddle x = twoBands();
                    Checks.letters(x, 3, 2, "left 0");
                    x.set(3, 4, v);
                    return x;
                }, "table(3) with " + v, x -> x.table(3), 4);
            }
        });
    }

    private static void allOrNothing() {
        CHECKS.sentence("14: or nothing: each ITEM ahead of a FAULT is not told", () -> {
            fault("band 0 0 5 0;x", 13);
            fault("left 0;x", 7);
            fault("right 1;x", 8);
            fault("paint 1 0 7;x", 12);
            fault("twist 0 99;x", 11);
            fault("band 0 0 5 0;left 0;paint 1 0 7;twist 0 99;left 7", 48);
        });
        CHECKS.sentence("14: the ROW itself stays as it is", () -> {
            DownTheMiddle x = told("left 0", 1);
            CHECKS.due("table(7) again", x.table(7), 1);
            CHECKS.due("holds(7)", x.holds(7), 100);
            CHECKS.due("element(7, 5)", x.element(7, 5), '0');
        });
    }

    private static void room() {
        CHECKS.sentence("14: what there is no room for can't stand: its word", () -> {
            faultOver(TableTest::sixBands, "band 0 0 1 0", 0);
            faultOver(TableTest::sixBands, "left 5;band 0 0 1 0", 7);
            faultOver(() -> {
                DownTheMiddle x = sixBands();
                x.goes();
                return x;
            }, "band 0 0 1 0;band 0 0 1 0", 13);
        });
        CHECKS.sentence("14: no room only for a seventh", () -> {
            DownTheMiddle x = sixBands();
            x.goes();
            CHECKS.due("table", Checks.table(x, "band 0 0 1 0"), 1);
            CHECKS.due("status(0)", x.status(0), 6);
            CHECKS.due("an ITEM that needs no room", Checks.table(x, "twist 5 1;right 5;left 5;paint 5 0 1"), 4);
        });
        CHECKS.sentence("14: whether there is room is asked when the letters stand whole, whatever follows", () -> {
            faultOver(TableTest::sixBands, "band", 0);
            faultOver(TableTest::sixBands, "bandx", 0);
            faultOver(TableTest::sixBands, "band ", 0);
            faultOver(TableTest::sixBands, "band 7 0 1 0", 0);
            faultOver(TableTest::sixBands, "right 0;band", 8);
        });
        CHECKS.sentence("14: until then the first element that is not as it, or the number of elements", () -> {
            faultOver(TableTest::sixBands, "b", 1);
            faultOver(TableTest::sixBands, "ba", 2);
            faultOver(TableTest::sixBands, "ban", 3);
            faultOver(TableTest::sixBands, "bx", 1);
            faultOver(TableTest::sixBands, "bax", 2);
            faultOver(TableTest::sixBands, "banx", 3);
            faultOver(TableTest::sixBands, "ban ", 3);
            faultOver(TableTest::sixBands, "left 5;ban", 10);
        });
    }

    private static void tableRefused(int s, int number) {
        CHECKS.refused(TableTest::twoBands, "table(" + s + ")", x -> x.table(s), number);
    }

    private static void refusals() {
        CHECKS.sentence("14: -1 no such SHELF", () -> {
            tableRefused(-1, 1);
            tableRefused(8, 1);
            tableRefused(MIN, 1);
            tableRefused(MAX, 1);
        });
        CHECKS.sentence("14: -2 a BAND", () -> tableRefused(1, 2));
        CHECKS.sentence("14: -3 NOTHING", () -> tableRefused(7, 3));
        CHECKS.sentence("14: -6 a FAULT", () -> fault("left 9", 5));
    }

    private static void fault() {
        CHECKS.sentence("15: NONE: none yet", () -> {
            CHECKS.due("fault()", new DownTheMiddle().fault(), -1);
            CHECKS.due("fault()", twoBands().fault(), -1);
        });
        CHECKS.sentence("15: NONE: there was none", () -> {
            DownTheMiddle x = with(TableTest::twoBands, "left 9").get();
            x.table(7);
            CHECKS.due("fault()", x.fault(), 5);
            CHECKS.due("table", Checks.table(x, "left 1"), 1);
            CHECKS.due("fault()", x.fault(), -1);
        });
        CHECKS.sentence("15: of the latest table()", () -> {
            DownTheMiddle x = twoBands();
            Checks.table(x, "left 9");
            CHECKS.due("fault()", x.fault(), 5);
            Checks.table(x, "");
            CHECKS.due("fault()", x.fault(), 0);
            CHECKS.due("fault() again", x.fault(), 0);
        });
        CHECKS.sentence("15: that came to a ROW: a refusal for the SHELF leaves it", () -> {
            for (int s : new int[] {8, -1, 1, 3}) {
                DownTheMiddle x = with(TableTest::twoBands, "left 9").get();
                x.table(7);
                x.table(s);
                CHECKS.due("fault() after table(" + s + ")", x.fault(), 5);
                Checks.table(x, "left 1");
                x.table(s);
                CHECKS.due("fault() after table(" + s + ")", x.fault(), -1);
            }
        });
        CHECKS.sentence("15: no other call changes it", () -> {
            DownTheMiddle x = with(TableTest::twoBands, "left 9").get();
            x.table(7);
            x.row(7, 0, 0);
            x.band(0, 0, 1, 0, 0);
            x.goes();
            x.image();
            x.restore();
            x.act(0, 0, 0);
            CHECKS.due("fault()", x.fault(), 5);
        });
    }
}
