import java.util.Arrays;
import java.util.function.Supplier;
import java.util.function.ToLongFunction;

/** What the tests share: due answers are compared and counted by the sentence they hold, and a test ends by finish(). */
final class Checks {
    private final String name;
    private String sentence = "";
    private int sentences = 0;
    private int asked = 0;
    private int wrong = 0;
    private int askedBefore = 0;

    Checks(String name) {
        this.name = name;
    }

    /** One sentence of the document, with a test of its own; whatever is thrown in it is a fault. */
    void sentence(String words, Runnable body) {
        sentence = words;
        sentences++;
        askedBefore = asked;
        try {
            body.run();
        } catch (RuntimeException | Error e) {
            fail("threw " + e);
        }
        if (asked == askedBefore) {
            fail("nothing was asked");
        }
        sentence = "";
    }

    private void fail(String what) {
        wrong++;
        System.out.println(name + ": " + (sentence.isEmpty() ? "" : sentence + ": ") + what);
    }

    void due(String call, long got, long want) {
        asked++;
        if (got != want) {
            fail(call + " answered " + got + ", due is " + want);
        }
    }

    void due(String call, long[] got, long... want) {
        asked++;
        if (!Arrays.equals(got, want)) {
            fail(call + " told " + Arrays.toString(got) + ", due is " + Arrays.toString(want));
        }
    }

    void holds(String claim, boolean isSo) {
        asked++;
        if (!isSo) {
            fail("not so: " + claim);
        }
    }

    /**
     * In the scene the call is refused: it answers the number off by the base, it is counted once under that number and
     * under no other, nothing else that can be told has changed, and the image has not.
     */
    void refused(Supplier<DownTheMiddle> scene, String call, ToLongFunction<DownTheMiddle> act, int number, int base) {
        refusedWithoutChange(scene, call, act, number, base, NOTHING_ELSE);
    }

    void refused(Supplier<DownTheMiddle> scene, String call, ToLongFunction<DownTheMiddle> act, int number) {
        refused(scene, call, act, number, 0);
    }

    private static final int NOTHING_ELSE = Integer.MIN_VALUE;

    /** A table that is refused for a fault: the fault is the only other change. */
    void refusedByFault(Supplier<DownTheMiddle> scene, String call, ToLongFunction<DownTheMiddle> act, int fault) {
        refusedWithoutChange(scene, call, act, 6, 0, fault);
    }

    private void refusedWithoutChange(Supplier<DownTheMiddle> scene, String call, ToLongFunction<DownTheMiddle> act,
            int number, int base, int fault) {
        DownTheMiddle x = scene.get();
        long[] counts = Told.refusals(x);
        due(call, act.applyAsLong(x), -base - number);
        counts[number - 1]++;
        due(call + ", counted under -1 to -7", Told.refusals(x), counts);
        if (fault != NOTHING_ELSE) {
            due(call + ", its fault", x.fault(), fault);
        }
        long[] before = Told.all(scene.get());
        long[] after = Told.all(x);
        if (fault != NOTHING_ELSE) {
            after[Told.PLACE_OF_FAULT] = before[Told.PLACE_OF_FAULT];
        }
        due(call + ", all else after it", after, before);
        DownTheMiddle restored = scene.get();
        restored.restore();
        x.restore();
        due(call + ", the image after it", Told.bands(x), Told.bands(restored));
    }

    void finish() {
        System.out.println(name + ": " + sentences + " sentences, " + asked + " asked, " + wrong + " wrong");
        if (wrong != 0) {
            System.exit(1);
        }
    }

    /** Shelf s holds a row of the sort with these letters. */
    static void letters(DownTheMiddle x, int s, int sort, String text) {
        x.row(s, sort, text.length());
        for (int i = 0; i < text.length(); i++) {
            x.set(s, i, text.charAt(i));
        }
    }

    static void numbers(DownTheMiddle x, int s, int sort, long... values) {
        x.row(s, sort, values.length);
        for (int i = 0; i < values.length; i++) {
            x.set(s, i, values[i]);
        }
    }

    static int table(DownTheMiddle x, String text) {
        letters(x, 7, 0, text);
        return x.table(7);
    }

    static DownTheMiddle withBand(int kind, int twists, int strips, int hand, int a) {
        DownTheMiddle x = new DownTheMiddle();
        x.band(kind, twists, strips, hand, a);
        return x;
    }
}
