/** Promises 39, 40 and status(4): acts and their trace, beside classes of Java's own with the document's bodies. */
public final class ActsTest {
    private static final Checks CHECKS = new Checks("ActsTest");
    private static final java.util.List<Integer> BEGAN = new java.util.ArrayList<>();

    public static void main(String[] args) {
        byHand();
        besideClasses();
        noSuch();
        CHECKS.finish();
    }

    private static class Band {
        int m;
        int k;

        void ran(int body) {
            BEGAN.add(body);
        }

        int goes(int x) {
            ran(10);
            return x + m;
        }

        int turns(int x) {
            ran(11);
            return goes(x) * 2;
        }

        int hooks(int x) {
            ran(12);
            return turns(x) ^ goes(x - k);
        }
    }

    private static class Lined extends Band {
        @Override
        int goes(int x) {
            ran(20);
            return super.goes(x) + k;
        }
    }

    private static class Swapped extends Band {
        @Override
        int turns(int x) {
            ran(30);
            return super.turns(x) * 3;
        }
    }

    private static final class Doubled extends Lined {
        @Override
        int turns(int x) {
            ran(40);
            return super.turns(x + 1);
        }
    }

    private static class Plain extends Band {
        @Override
        int hooks(int x) {
            ran(50);
            return -super.hooks(x);
        }

        @Override
        int goes(int x) {
            ran(51);
            return super.goes(x) - m;
        }
    }

    private static final class Mirror extends Swapped {
        @Override
        int hooks(int x) {
            ran(60);
            return super.hooks(x) ^ 5;
        }
    }

    private static final class Last extends Plain {
        @Override
        int goes(int x) {
            ran(70);
            return super.goes(x) * 2;
        }

        @Override
        int turns(int x) {
            ran(71);
            return super.turns(x - k);
        }
    }

    private static Band ofKind(int kind) {
        Band[] kinds = {new Band(), new Lined(), new Swapped(), new Doubled(), new Plain(), new Mirror(), new Last()};
        return kinds[kind];
    }

    private static void trace(DownTheMiddle x, int... want) {
        CHECKS.due("status(4)", x.status(4), want.length);
        for (int i = 0; i < want.length; i++) {
            CHECKS.due("trace(" + i + ")", x.trace(i), want[i]);
        }
        CHECKS.due("trace beyond", x.trace(want.length), -1);
        CHECKS.due("trace below", x.trace(-1), -1);
        CHECKS.due("trace far beyond", x.trace(20), -1);
        CHECKS.due("trace far beyond", x.trace(Integer.MAX_VALUE), -1);
    }

    private static void byHand() {
        DownTheMiddle x = Checks.withBand(0, 0, 1, 0, 0);
        x.band(6, 0, 1, 0, 4);
        // turns: goes(20 - 4) * 2 = 32 * 2; goes(20 - 4) = 32; -(64 ^ 32).
        CHECKS.due("LAST hooks", x.act(1, 2, 20), -96);
        trace(x, 50, 12, 71, 11, 70, 51, 10, 70, 51, 10);
        CHECKS.due("BAND turns", x.act(0, 1, -8), -16);
        trace(x, 11, 10);
    }

    private static void besideClasses() {
        int[] xs = {0, 1, -1, 5, 1000, Integer.MAX_VALUE, Integer.MIN_VALUE, 0x55555555};
        for (int kind = 0; kind < 7; kind++) {
            for (int m = 0; m < 6; m++) {
                DownTheMiddle x = new DownTheMiddle();
                for (int b = 0; b <= m; b++) {
                    x.band(b == m ? kind : 6 - kind, 3, 3, 0, (kind * 3 + b * 2 + 1) % 10);
                }
                Band due = ofKind(kind);
                due.m = m;
                due.k = x.bandOf(m, 4);
                for (int v : xs) {
                    actsAre(x, due, kind, v);
                }
            }
        }
    }

    private static void actsAre(DownTheMiddle x, Band due, int kind, int v) {
        for (int act = 0; act < 3; act++) {
            BEGAN.clear();
            int want = act == 0 ? due.goes(v) : act == 1 ? due.turns(v) : due.hooks(v);
            CHECKS.due("act " + act + " of KIND " + kind + " with " + v, x.act(due.m, act, v), want);
            trace(x, BEGAN.stream().mapToInt(Integer::intValue).toArray());
        }
    }

    private static void noSuch() {
        DownTheMiddle x = Checks.withBand(6, 0, 1, 0, 4);
        int[][] calls = {{1, 0}, {-1, 0}, {0, -1}, {0, 3}};
        for (int[] call : calls) {
            x.act(0, 2, 7);
            CHECKS.due("act(" + call[0] + ", " + call[1] + ", 7)", x.act(call[0], call[1], 7), 0);
            trace(x);
        }
        for (int r = 11; r <= 17; r++) {
            CHECKS.due("nothing is refused", x.status(r), 0);
        }
    }
}
