import java.util.ArrayList;
import java.util.HashMap;
import java.util.List;
import java.util.Map;
import java.util.stream.LongStream;

/** For each call of the face the numbers worth trying in each place: the last that may be, the first that may not. */
final class Numbers {
    private static final long MIN = Integer.MIN_VALUE;
    private static final long MAX = Integer.MAX_VALUE;
    private static final long[] SHELVES = with(from(-1, 8), MIN, MAX);
    private static final long[] SOME_SHELVES = {-1, 0, 1, 2, 3, 4, 5, 6, 7, 8};
    private static final long[] BANDS = with(from(-1, 6), MIN, MAX);
    private static final long[] STRIPS = with(from(-1, 12), MIN, MAX);
    private static final long[] FEW_STRIPS = from(-1, 12);
    private static final long[] KINDS = with(from(-1, 7), MIN, MAX);
    private static final long[] ELEMENTS = {MIN, -1, 0, 1, 4, 5, 6, 159, 160, MAX};
    private static final long[] COPIED_FROM = {MIN, -1, 0, 2, 5, 6, MAX};
    private static final long[] COPIED = {MIN, -1, 0, 1, 3, 5, 6, 160, 161, MAX};
    private static final long[] MANY = {MIN, -1, 0, 1, 2, 3, 4, 5, 6, 159, 160, 161, MAX};
    private static final long[] VALUES = {0, 1, -1, 98, 127, 128, -128, -129, 255, 256, 32767, 32768, -32768, -32769,
        65535, 65536, MAX, MAX + 1, MIN, MIN - 1, 1L << 32, (1L << 32) + 98, Long.MAX_VALUE, Long.MIN_VALUE};
    private static final long[] TWISTS = {MIN, -1, 0, 1, 2, 9998, 9999, 10000, MAX};
    private static final long[] FEW = with(from(-1, 4), MIN, MAX);
    private static final long[] TO_THIRTEEN = with(from(-1, 13), MIN, MAX);
    private static final long[] ANY = {MIN, MIN + 1, -100, -1, 0, 1, 5, 77, 65535, 65536, 1000000000, MAX - 5, MAX};
    private static final long[] OF_LAWS = {MIN, -1, 0, 1, 2, 3, 4, 5, 12, 13, 40, 41, 999999998, 999999999,
        1000000000, 1000000001, MAX};

    private static final Map<String, long[][]> OF = new HashMap<>();

    static {
        of("row", SHELVES, FEW, new long[] {MIN, -1, 0, 1, 159, 160, 161, MAX});
        of("set", SHELVES, ELEMENTS, VALUES);
        of("copy", SOME_SHELVES, SOME_SHELVES, COPIED_FROM, COPIED_FROM, COPIED);
        of("element", SHELVES, ELEMENTS);
        of("show", SHELVES, with(BANDS, -2));
        of("holds", SHELVES);
        of("says", SHELVES, KINDS);
        of("band", new long[] {MIN, -1, 0, 5, 6, 7, MAX}, new long[] {MIN, -1, 0, 9999, 10000, MAX},
                new long[] {MIN, -1, 0, 1, 12, 13, MAX}, new long[] {MIN, -1, 0, 1, 2, MAX},
                new long[] {MIN, -1, 0, 9, 10, MAX});
        of("bandOf", BANDS, with(from(-1, 23), MIN, MAX, MAX - 9, MIN + 10));
        of("twist", BANDS, TWISTS);
        of("turn", BANDS);
        of("paint", BANDS, STRIPS, new long[] {MIN, -1, 0, 1, 7, 8, MAX});
        of("table", SHELVES);
        of("fault");
        of("on", BANDS, STRIPS);
        of("pieces", BANDS);
        of("pieceOf", BANDS, STRIPS, FEW);
        of("pieceAt", BANDS, STRIPS);
        of("crossings", BANDS, FEW_STRIPS, STRIPS);
        of("hooks", BANDS, FEW_STRIPS, STRIPS);
        of("allHooks", BANDS);
        of("groups", BANDS);
        of("unhook", BANDS);
        of("painted", BANDS);
        of("repaint", BANDS);
        of("worn", BANDS);
        of("law", OF_LAWS, OF_LAWS, FEW);
        of("judge", BANDS, SHELVES, MANY);
        of("fits", BANDS, SHELVES, MANY);
        of("make", TO_THIRTEEN, with(from(-1, 83), MIN, MAX));
        of("leastTwist", BANDS, TO_THIRTEEN);
        of("most", BANDS);
        of("cross", BANDS, BANDS, new long[] {MIN, -1, 0, 1, 2, MAX});
        of("cut", BANDS, STRIPS);
        of("draws", with(from(-1, 7), MIN, MAX));
        of("goes");
        of("seed", ANY);
        of("act", BANDS, new long[] {MIN, -1, 0, 1, 2, 3, MAX}, ANY);
        of("trace", with(from(-1, 21), MIN, MAX));
        of("image");
        of("restore");
        of("status", with(from(-1, 20), MIN, MAX));
    }

    private Numbers() { }

    private static void of(String name, long[]... numbers) {
        OF.put(name, numbers);
    }

    private static long[] from(long least, long greatest) {
        return LongStream.rangeClosed(least, greatest).toArray();
    }

    private static long[] with(long[] some, long... more) {
        return LongStream.concat(LongStream.of(some), LongStream.of(more)).toArray();
    }

    static long[][] forCall(String name) {
        return OF.get(name);
    }

    /** Every choice of one number for each place. */
    static List<Call> allCalls(String name) {
        List<Call> calls = new ArrayList<>();
        choose(name, new long[OF.get(name).length], 0, calls);
        return calls;
    }

    private static void choose(String name, long[] chosen, int place, List<Call> calls) {
        if (place == chosen.length) {
            calls.add(new Call(name, chosen.clone()));
            return;
        }
        for (long number : OF.get(name)[place]) {
            chosen[place] = number;
            choose(name, chosen, place + 1, calls);
        }
    }
}
