import java.util.function.LongSupplier;

/** Promises 22 to 27: all hooks, groups, unhook, painted, repaint, worn. */
public final class HangingTest {
    private static final Checks CHECKS = new Checks("HangingTest");

    public static void main(String[] args) {
        noneHang();
        allHang();
        someHang();
        overOthers();
        colours();
        worn();
        refusals();
        CHECKS.finish();
    }

    private static void hangs(String what, DownTheMiddle x, int allHooks, int groups, int unhook) {
        CHECKS.due("allHooks, " + what, x.allHooks(0), allHooks);
        CHECKS.due("groups, " + what, x.groups(0), groups);
        CHECKS.due("unhook, " + what, x.unhook(0), unhook);
    }

    private static void noneHang() {
        hangs("no twists", Checks.withBand(0, 0, 12, 0, 0), 0, 12, 0);
        hangs("one piece", Checks.withBand(0, 1, 2, 0, 0), 0, 1, 0);
    }

    private static void allHang() {
        hangs("two twists", Checks.withBand(0, 2, 4, 0, 0), 6, 1, 7);
        hangs("three twists", Checks.withBand(0, 3, 5, 0, 0), 12, 1, 3);
    }

    private static void someHang() {
        // 0 and 2, 1, 3 and 4: only the first two hang.
        hangs("two of three", Checks.withBand(1, 1, 5, 0, 3), 1, 2, 1);
        // 0, 1 and 4, 2 and 3: only the last two hang.
        hangs("the last two of three", Checks.withBand(1, 1, 5, 0, 1), 2, 2, 2);
    }

    private static void overOthers() {
        // 0 and 3 hang in 1 and in 2, which don't hang in each other.
        hangs("LAST", Checks.withBand(6, 0, 4, 0, 0), 2, 1, 1);
        hangs("MIRROR", Checks.withBand(5, 0, 6, 1, 0), 5, 1, 3);
    }

    private static void colours() {
        DownTheMiddle x = Checks.withBand(1, 0, 9, 0, 3);
        CHECKS.due("painted alike at first", x.painted(0), 7);
        CHECKS.due("repaint none", x.repaint(0), 0);
        x.paint(0, 0, 1);
        x.paint(0, 1, 2);
        x.paint(0, 4, 3);
        CHECKS.due("painted", x.painted(0), 4);
        CHECKS.due("repaint one of 0, 3, 6 and two of 1, 4, 7", x.repaint(0), 3);
        x.paint(0, 7, 3);
        CHECKS.due("repaint one of each", x.repaint(0), 2);
        x.paint(0, 3, 1);
        x.paint(0, 6, 1);
        CHECKS.due("painted", x.painted(0), 5);
        DownTheMiddle y = Checks.withBand(1, 0, 9, 0, 1);
        for (int i = 0; i < 8; i++) {
            y.paint(0, i, i);
        }
        CHECKS.due("of eight colours", y.repaint(0), 7);
        CHECKS.due("painted", y.painted(0), 0);
    }

    private static void worn() {
        CHECKS.due("the middle one", Checks.withBand(0, 3, 5, 0, 0).worn(0), 4);
        CHECKS.due("all", Checks.withBand(4, 3, 5, 0, 0).worn(0), 31);
        CHECKS.due("none", Checks.withBand(4, 2, 5, 0, 0).worn(0), 0);
        CHECKS.due("three strips long", Checks.withBand(1, 1, 5, 0, 0).worn(0), 4);
    }

    private static void refusals() {
        DownTheMiddle x = Checks.withBand(0, 0, 1, 0, 0);
        for (int band = -1; band < 2; band += 2) {
            int b = band;
            LongSupplier[] calls = {() -> x.allHooks(b), () -> x.groups(b), () -> x.unhook(b),
                () -> x.painted(b), () -> x.repaint(b), () -> x.worn(b)};
            for (int k = 0; k < calls.length; k++) {
                CHECKS.refused(x, "call " + k + " of band " + b, calls[k], 1);
            }
        }
    }
}
