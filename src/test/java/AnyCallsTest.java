import java.util.ArrayList;
import java.util.Arrays;
import java.util.List;
import java.util.Random;

/** Every promise in runs of 512 calls by a seed of their own, beside the second program; no call throws. */
public final class AnyCallsTest {
    private static final Checks CHECKS = new Checks("AnyCallsTest");
    private static final int RUNS = 600;
    private static final int MOST_CALLS = 512;
    private static final String[] TEXTS = {"band 1 3 12 4", "paint 0 0 5;twist 0 9", "left 1;right 0",
        "band 6 1 5 2;b", "twist", "band 5 4 11 0;paint 1 10 7", "right 5;left 3", "twist 2 9999;twist 1 0010"};
    /** These fill the table or come before what is worth asking: they are drawn more often. */
    private static final List<String> MORE = List.of("band", "band", "draws", "draws", "show", "show", "image", "act", "paint");

    public static void main(String[] args) {
        List<String> names = new ArrayList<>(Call.names());
        names.addAll(MORE);
        for (int run = 0; run < RUNS; run++) {
            Random random = new Random(run);
            CHECKS.sentence("run " + run, () -> tryRun(names, random));
        }
        CHECKS.sentence("a run without what was refused answers the same", () -> withoutTheRefused(names));
        CHECKS.finish();
    }

    private static void tryRun(List<String> names, Random random) {
        DownTheMiddle x = new DownTheMiddle();
        Paper due = new Paper();
        for (Call call : anyCalls(names, random)) {
            CHECKS.due(call.toString(), call.of(x), call.of(due));
        }
    }

    private static List<Call> anyCalls(List<String> names, Random random) {
        List<Call> calls = new ArrayList<>();
        while (calls.size() < MOST_CALLS) {
            int choice = random.nextInt(100);
            if (choice < 2) {
                calls.addAll(Call.letters(random.nextInt(8), random.nextInt(4), TEXTS[random.nextInt(TEXTS.length)]));
            } else if (choice < 8) {
                calls.add(new Call("band", random.nextInt(7), random.nextInt(12), 1 + random.nextInt(12),
                        random.nextInt(2), random.nextInt(10)));
            } else {
                calls.add(anyCall(names.get(random.nextInt(names.size())), random));
            }
        }
        return calls.subList(0, MOST_CALLS);
    }

    private static Call anyCall(String name, Random random) {
        long[][] choices = Numbers.forCall(name);
        return new Call(name, Arrays.stream(choices).mapToLong(some -> anyOf(some, random)).toArray());
    }

    /** Of the numbers worth trying mostly a small one, so that a call is not refused each time. */
    private static long anyOf(long[] some, Random random) {
        long number = some[random.nextInt(some.length)];
        for (int k = 0; k < 2 && (number < 0 || number > 6); k++) {
            number = some[random.nextInt(some.length)];
        }
        return number;
    }

    private static void withoutTheRefused(List<String> names) {
        for (int run = RUNS; run < RUNS + 100; run++) {
            DownTheMiddle x = new DownTheMiddle();
            DownTheMiddle without = new DownTheMiddle();
            Paper counting = new Paper();
            for (Call call : anyCalls(names, new Random(run))) {
                long[] counts = Told.refusals(counting);
                call.of(counting);
                boolean isRefused = !Arrays.equals(counts, Told.refusals(counting));
                boolean asksOfRefusals = call.name().equals("status") && call.numbers()[0] > 10;
                boolean mayFault = call.name().equals("table");
                long answer = call.of(x);
                if (!asksOfRefusals && (mayFault || !isRefused)) {
                    CHECKS.due(call.toString(), call.of(without), answer);
                }
            }
        }
    }
}
