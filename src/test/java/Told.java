import java.util.Arrays;
import java.util.function.IntBinaryOperator;
import java.util.function.IntSupplier;
import java.util.function.IntUnaryOperator;
import java.util.stream.IntStream;
import java.util.stream.LongStream;

/** All that a program tells without refusing: some 250 calls, so that it and a run before it stay below 512. */
final class Told {
    /** Where the fault stands in all(). */
    static final int PLACE_OF_FAULT = 0;
    private static final int[] PLACES_OF_ELEMENTS = {0, 1, 2, 3, 4, 5, 6, 7, 8, 9, 156, 157, 158, 159, 160};

    private interface Elements {
        long at(int s, int i);
    }

    private record Asked(IntUnaryOperator status, IntBinaryOperator bandOf, IntUnaryOperator holds,
            Elements element, IntUnaryOperator trace, IntSupplier fault) { }

    private Told() { }

    private static Asked asked(DownTheMiddle x) {
        return new Asked(x::status, x::bandOf, x::holds, x::element, x::trace, x::fault);
    }

    private static Asked asked(Paper x) {
        return new Asked(x::status, x::bandOf, x::holds, x::element, x::trace, x::fault);
    }

    /** The fault, what is told of bands, shelves, and the trace. */
    static long[] all(DownTheMiddle x) {
        return all(asked(x));
    }

    static long[] all(Paper x) {
        return all(asked(x));
    }

    /** BANDS, PIECES, SNIPS, SEED, and each band with its colours. */
    static long[] bands(DownTheMiddle x) {
        return bands(asked(x)).toArray();
    }

    static long[] bands(Paper x) {
        return bands(asked(x)).toArray();
    }

    /** status(11) to status(17). */
    static long[] refusals(DownTheMiddle x) {
        return refusals(asked(x));
    }

    static long[] refusals(Paper x) {
        return refusals(asked(x));
    }

    private static long[] refusals(Asked x) {
        return IntStream.rangeClosed(11, 17).map(x.status()).asLongStream().toArray();
    }

    private static LongStream bands(Asked x) {
        LongStream counts = IntStream.range(0, 4).map(x.status()).asLongStream();
        LongStream each = IntStream.range(0, x.status().applyAsInt(0)).boxed().flatMapToInt(b -> band(x, b)).asLongStream();
        return LongStream.of(LongStream.concat(counts, each).toArray());
    }

    private static IntStream band(Asked x, int b) {
        int strips = x.bandOf().applyAsInt(b, 2);
        IntStream words = IntStream.range(0, 5).map(what -> x.bandOf().applyAsInt(b, what));
        IntStream colours = IntStream.range(10, 10 + strips).map(what -> x.bandOf().applyAsInt(b, what));
        return IntStream.concat(words, colours);
    }

    private static long[] all(Asked x) {
        LongStream fault = LongStream.of(x.fault().getAsInt());
        LongStream ran = LongStream.of(x.status().applyAsInt(4));
        LongStream trace = IntStream.rangeClosed(0, 20).map(x.trace()).asLongStream();
        LongStream shelves = IntStream.range(0, 8).boxed().flatMapToLong(s -> shelf(x, s));
        return LongStream.concat(LongStream.concat(fault, ran),
                LongStream.concat(LongStream.concat(trace, shelves), bands(x))).toArray();
    }

    private static LongStream shelf(Asked x, int s) {
        LongStream holds = LongStream.of(x.holds().applyAsInt(s));
        return LongStream.concat(holds, Arrays.stream(PLACES_OF_ELEMENTS).mapToLong(i -> x.element().at(s, i)));
    }
}
