/** What the tests share: due answers are compared and counted, and a test ends by finish(). */
final class Checks {
    private static final String[] WORDS_OF_REFUSALS = {"", "NOBODY", "OTHER", "NOTHING", "BELOW", "BEYOND", "WRONG", "ROOM"};
    private final String name;
    private int asked = 0;
    private int wrong = 0;

    Checks(String name) {
        this.name = name;
    }

    void due(String call, long got, long want) {
        asked++;
        if (got != want) {
            wrong++;
            System.out.println(name + ": " + call + " answered " + got + ", due is " + want);
        }
    }

    void holds(String claim, boolean isSo) {
        asked++;
        if (!isSo) {
            wrong++;
            System.out.println(name + ": not so: " + claim);
        }
    }

    /** A refusal answers off by a base, counts once by its number, and nothing else is counted. */
    void refused(DownTheMiddle x, String call, java.util.function.LongSupplier act, int number, long base) {
        long[] before = new long[8];
        for (int r = 1; r <= 7; r++) {
            before[r] = x.status(10 + r);
        }
        due(call, act.getAsLong(), -base - number);
        for (int r = 1; r <= 7; r++) {
            long more = r == number ? 1 : 0;
            due(call + ": how many " + WORDS_OF_REFUSALS[r], x.status(10 + r), before[r] + more);
        }
    }

    void refused(DownTheMiddle x, String call, java.util.function.LongSupplier act, int number) {
        refused(x, call, act, number, 0);
    }

    void finish() {
        System.out.println(name + ": " + asked + " asked, " + wrong + " wrong");
        if (wrong != 0) {
            System.exit(1);
        }
    }

    /** Shelf s holds a row of the sort with these letters. */
    static void letters(DownTheMiddle x, int s, int sort, String text) {
        x.row(s, sort, text.length());
        for (int i = 0; i < text.length(); i++) {
            x.set(s, i, text.charAt(i));
        }
    }

    static void numbers(DownTheMiddle x, int s, int sort, long... values) {
        x.row(s, sort, values.length);
        for (int i = 0; i < values.length; i++) {
            x.set(s, i, values[i]);
        }
    }

    static int table(DownTheMiddle x, String text) {
        letters(x, 7, 0, text);
        return x.table(7);
    }

    static DownTheMiddle withBand(int kind, int twists, int strips, int hand, int a) {
        DownTheMiddle x = new DownTheMiddle();
        x.band(kind, twists, strips, hand, a);
        return x;
    }
}
