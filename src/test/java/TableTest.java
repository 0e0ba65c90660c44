/** Promises 14 and 15: tables, and their faults. */
public final class TableTest {
    private static final Checks CHECKS = new Checks("TableTest");

    public static void main(String[] args) {
        tellsAllItems();
        readsAnySort();
        startsOfTexts();
        words();
        numbers();
        bandsThatAreThere();
        endsAndSeparators();
        room();
        allOrNothing();
        longest();
        refusals();
        faultOfTheLatest();
        CHECKS.finish();
    }

    private static void tellsAllItems() {
        DownTheMiddle x = new DownTheMiddle();
        CHECKS.due("table", Checks.table(x, "band 3 9999 12 9;band 0 0 1 0;right 0;paint 0 11 7;twist 1 42;right 1;left 1"), 7);
        CHECKS.due("fault", x.fault(), -1);
        int[][] due = {{3, 9999, 12, 1, 9}, {0, 42, 1, 0, 0}};
        for (int b = 0; b < 2; b++) {
            for (int what = 0; what < 5; what++) {
                CHECKS.due("bandOf " + b + " " + what, x.bandOf(b, what), due[b][what]);
            }
        }
        CHECKS.due("COLOUR", x.bandOf(0, 21), 7);
        CHECKS.due("COLOUR of another", x.bandOf(0, 20), 0);
        CHECKS.due("over what there is", Checks.table(x, "band 6 3 2 1;right 2;left 0;twist 0 0008"), 4);
        CHECKS.due("how many", x.status(0), 3);
        CHECKS.due("KIND", x.bandOf(2, 0), 6);
        CHECKS.due("HAND of a new one", x.bandOf(2, 3), 1);
        CHECKS.due("HAND of an old one", x.bandOf(0, 3), 0);
        CHECKS.due("TWISTS", x.bandOf(0, 1), 8);
        CHECKS.due("no refusals", x.status(16), 0);
    }

    private static void readsAnySort() {
        for (int sort = 0; sort < 4; sort++) {
            DownTheMiddle x = new DownTheMiddle();
            Checks.letters(x, 3, sort, "band 0 1 2 3");
            CHECKS.due("table of SORT " + sort, x.table(3), 1);
        }
        DownTheMiddle x = new DownTheMiddle();
        Checks.letters(x, 3, 3, "band 0 1 2 3");
        x.set(3, 0, (7L << 32) + 'b');
        CHECKS.due("of longs the lowest 32 bits", x.table(3), 1);
        x.set(3, 0, 'b' + 256);
        CHECKS.due("but all of these", x.table(3), -6);
        CHECKS.due("fault", x.fault(), 0);
        x.set(3, 0, -1);
        CHECKS.due("no letter", x.table(3), -6);
        CHECKS.due("fault", x.fault(), 0);
    }

    /** Band 0 of 3 strips and band 1 of 12. */
    private static DownTheMiddle twoBands() {
        DownTheMiddle x = Checks.withBand(0, 1, 3, 0, 0);
        x.band(1, 2, 12, 0, 5);
        return x;
    }

    private static void faultOver(DownTheMiddle x, String text, int fault) {
        CHECKS.due("table(" + text + ")", Checks.table(x, text), -6);
        CHECKS.due("fault of " + text, x.fault(), fault);
    }

    private static void fault(String text, int fault) {
        faultOver(twoBands(), text, fault);
    }

    private static void stands(String text, int items) {
        DownTheMiddle x = twoBands();
        CHECKS.due("table(" + text + ")", Checks.table(x, text), items);
        CHECKS.due("fault of " + text, x.fault(), -1);
    }

    private static void startsOfTexts() {
        fault("", 0);
        fault(" left 0", 0);
        fault("Left 0", 0);
        fault(";left 0", 0);
        fault("x", 0);
        fault("0", 0);
    }

    private static void words() {
        for (String word : new String[] {"band", "right", "left", "paint", "twist"}) {
            for (int letters = 1; letters <= word.length(); letters++) {
                fault(word.substring(0, letters), letters);
                fault(word.substring(0, letters) + "x", letters);
                fault(word.substring(0, letters) + ";", letters);
            }
            fault(word + "  0", word.length() + 1);
            fault(word + " x", word.length() + 1);
            fault(word + " ", word.length() + 1);
            fault(word + " -1", word.length() + 1);
            fault("left 0;" + word + "0", 7 + word.length());
        }
    }

    private static void numbers() {
        stands("band 6 9999 12 9", 1);
        stands("band 0 0 1 0", 1);
        stands("band 0006 0000 0012 0009", 1);
        fault("band 7 0 1 0", 5);
        fault("band 7", 5);
        fault("band 7x", 5);
        fault("band 10 0 1 0", 5);
        fault("band 00000 0 1 0", 9);
        fault("band 0 10000 1 0", 11);
        fault("band 0 0 0 0", 9);
        fault("band 0 0 13 0", 9);
        fault("band 0 0 1 10", 11);
        fault("band 0 0 1 ", 11);
        fault("band 0 0 1", 10);
        fault("band 0 0 1;", 10);
        fault("band 0 0 1 0 ", 12);
        fault("band 0 0 1 0 0", 12);
        fault("paint 0 0 8", 10);
        fault("paint 0 3 0", 8);
        fault("paint 0 1234", 8);
        fault("paint 0 12345", 8);
        fault("paint 0 00005", 12);
        fault("twist 0 99990", 12);
        fault("twist 0 9999x", 12);
        stands("twist 0 0000", 1);
        stands("paint 0 2 7", 1);
        stands("paint 0 0 0", 1);
        stands("paint 1 11 7", 1);
        fault("paint 1 12 7", 8);
    }

    private static void bandsThatAreThere() {
        stands("right 1", 1);
        fault("right 2", 6);
        fault("left 2", 5);
        fault("paint 2 0 0", 6);
        fault("twist 2 0", 6);
        faultOver(new DownTheMiddle(), "right 0", 6);
        faultOver(new DownTheMiddle(), "right ", 6);
        stands("band 0 0 5 0;paint 2 4 1", 2);
        fault("band 0 0 5 0;paint 2 5 1", 21);
        fault("right 2;band 0 0 5 0", 6);
        fault("band 0 0 5 0;right 3", 19);
    }

    private static void endsAndSeparators() {
        stands("left 0;left 1", 2);
        fault("left 0;", 7);
        fault("left 0;;left 1", 7);
        fault("left 0; left 1", 7);
        fault("left 0 ;left 1", 6);
        fault("left 0 ", 6);
        fault("left 0 0", 6);
        fault("left 0,left 1", 6);
        fault("left 0left 1", 6);
        fault("left 0\nleft 1", 6);
    }

    private static void room() {
        DownTheMiddle x = twoBands();
        for (int b = 2; b < 6; b++) {
            x.band(0, 0, 1, 0, 0);
        }
        faultOver(x, "band 0 0 1 0", 0);
        faultOver(x, "band", 0);
        faultOver(x, "bandx", 0);
        faultOver(x, "ban", 3);
        faultOver(x, "banx", 3);
        faultOver(x, "left 5;band 0 0 1 0", 7);
        CHECKS.due("an item that needs no room", Checks.table(x, "twist 5 1"), 1);
        x.goes();
        faultOver(x, "band 0 0 1 0;band 0 0 1 0", 13);
        CHECKS.due("none of it was told", x.status(0), 5);
        CHECKS.due("the last that has room", Checks.table(x, "band 0 0 1 0;right 5"), 2);
    }

    private static void allOrNothing() {
        DownTheMiddle x = twoBands();
        faultOver(x, "band 0 0 5 0;right 0;paint 1 0 7;twist 0 99;left 7", 49);
        CHECKS.due("how many", x.status(0), 2);
        CHECKS.due("HAND", x.bandOf(0, 3), 0);
        CHECKS.due("COLOUR", x.bandOf(1, 10), 0);
        CHECKS.due("TWISTS", x.bandOf(0, 1), 1);
    }

    private static void longest() {
        DownTheMiddle x = twoBands();
        StringBuilder text = new StringBuilder("right 0");
        for (int k = 0; k < 21; k++) {
            text.append(";left ").append(k % 2);
        }
        text.append(";left 0");
        CHECKS.due("its length", text.length(), 161);
        text.deleteCharAt(0).setCharAt(0, 'l');
        text.setCharAt(1, 'e');
        text.setCharAt(2, 'f');
        text.setCharAt(3, 't');
        CHECKS.due("23 items", Checks.table(x, text.toString()), 23);
        CHECKS.due("fault", x.fault(), -1);
    }

    private static void refusals() {
        DownTheMiddle x = twoBands();
        x.show(0, 0);
        CHECKS.refused(x, "table(8)", () -> x.table(8), 1);
        CHECKS.refused(x, "table(-1)", () -> x.table(-1), 1);
        CHECKS.refused(x, "table of a band", () -> x.table(0), 2);
        CHECKS.refused(x, "table of nothing", () -> x.table(1), 3);
        CHECKS.due("none came to a row", x.fault(), -1);
        Checks.letters(x, 2, 0, "left 9");
        CHECKS.refused(x, "table of a fault", () -> x.table(2), 6);
    }

    private static void faultOfTheLatest() {
        DownTheMiddle x = twoBands();
        faultOver(x, "left 9", 5);
        x.table(8);
        x.table(1);
        x.image();
        x.restore();
        CHECKS.due("the latest that came to a row", x.fault(), 5);
        CHECKS.due("one that stands", Checks.table(x, "left 1"), 1);
        CHECKS.due("no fault", x.fault(), -1);
    }
}
