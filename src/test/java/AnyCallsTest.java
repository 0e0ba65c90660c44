import java.lang.reflect.InvocationTargetException;
import java.lang.reflect.Method;
import java.util.Arrays;
import java.util.Comparator;

/** Every promise, for any numbers: no call throws, a refused call changes nothing, a repeated run answers the same. */
public final class AnyCallsTest {
    private static final Checks CHECKS = new Checks("AnyCallsTest");
    private static final int RUNS = 400;
    private static final int CALLS = 512;
    private static final int[] ODD_NUMBERS = {-2, 100, 159, 160, 161, 9999, 10000, 1000000000,
        Integer.MIN_VALUE, Integer.MAX_VALUE};
    private static final String[] TEXTS = {"band 1 3 12 4", "paint 0 0 5;twist 0 9", "left 1;right 0", "band 6 1 5 2;b", "twist"};
    private static long state;

    public static void main(String[] args) throws Exception {
        Method[] face = DownTheMiddle.class.getDeclaredMethods();
        face = Arrays.stream(face).filter(m -> java.lang.reflect.Modifier.isPublic(m.getModifiers())).toArray(Method[]::new);
        Arrays.sort(face, Comparator.comparing(Method::getName));
        for (int run = 0; run < RUNS; run++) {
            state = run;
            long first = run(face, run);
            state = run;
            CHECKS.due("run " + run + " again", run(face, run), first);
        }
        CHECKS.finish();
    }

    private static int next(int below) {
        state = state * 6364136223846793005L + 1442695040888963407L;
        return (int) ((state >>> 33) % below);
    }

    private static int number() {
        return next(10) == 0 ? ODD_NUMBERS[next(ODD_NUMBERS.length)] : next(14) - 1;
    }

    private static long run(Method[] face, int run) throws Exception {
        DownTheMiddle x = new DownTheMiddle();
        long sum = 0;
        for (int call = 0; call < CALLS; call++) {
            if (next(40) == 0) {
                Checks.letters(x, next(8), next(4), TEXTS[next(TEXTS.length)]);
            }
            Method method = face[next(face.length)];
            if (method.getName().equals("goes") && next(3) != 0) {
                continue;
            }
            sum = sum * 31 + answer(x, method, run);
        }
        return sum;
    }

    private static long answer(DownTheMiddle x, Method method, int run) throws Exception {
        Object[] numbers = new Object[method.getParameterCount()];
        for (int i = 0; i < numbers.length; i++) {
            boolean isLong = method.getParameterTypes()[i] == long.class;
            numbers[i] = isLong ? (Object) (number() * 4294967297L) : (Object) number();
        }
        long refusalsBefore = refusals(x);
        long before = told(x);
        try {
            long answered = ((Number) method.invoke(x, numbers)).longValue();
            if (refusals(x) != refusalsBefore) {
                CHECKS.due("refusals by one " + method.getName(), refusals(x), refusalsBefore + 1);
                CHECKS.due("told after a refused " + method.getName(), told(x), before);
                CHECKS.holds(method.getName() + " refuses below 0", answered < 0);
            }
            return answered;
        } catch (InvocationTargetException e) {
            CHECKS.holds("run " + run + ": " + method.getName() + Arrays.toString(numbers) + " threw " + e.getCause(), false);
            return 0;
        }
    }

    private static long refusals(DownTheMiddle x) {
        long all = 0;
        for (int r = 11; r <= 17; r++) {
            all += x.status(r);
        }
        return all;
    }

    /** All that can be asked for without being refused, as one number. */
    private static long told(DownTheMiddle x) {
        long all = 7;
        for (int what = 0; what < 5; what++) {
            all = all * 31 + x.status(what);
        }
        for (int b = 0; b < x.status(0); b++) {
            for (int what = 0; what < 5; what++) {
                all = all * 31 + x.bandOf(b, what);
            }
            for (int i = 0; i < x.bandOf(b, 2); i++) {
                all = all * 31 + x.bandOf(b, 10 + i);
            }
        }
        for (int s = 0; s < 8; s++) {
            all = all * 31 + x.holds(s);
            for (int i = 0; i < 160; i++) {
                all = all * 31 + x.element(s, i);
            }
        }
        for (int i = 0; i < 20; i++) {
            all = all * 31 + x.trace(i);
        }
        return all;
    }
}
