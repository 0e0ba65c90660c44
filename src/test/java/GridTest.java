import java.util.List;

/**
 * Promises 1 to 43, each call with every choice of boundary numbers in several scenes, beside the second program: its
 * answer, under which number it is counted and how often, and all that can be told afterwards, of the image too. Where
 * two or more refusals fit, some choice has them all.
 */
public final class GridTest {
    private static final Checks CHECKS = new Checks("GridTest");

    public static void main(String[] args) {
        for (String name : Call.names()) {
            CHECKS.sentence(name + "() in an empty place", () -> tryAll(name, nothingYet()));
            CHECKS.sentence(name + "() with a band of each kind", () -> tryAll(name, bandOfEachKind()));
            if (!name.equals("copy") && !name.equals("band") && !name.equals("law") && !name.equals("make")) {
                CHECKS.sentence(name + "() with three bands", () -> tryAll(name, threeBands()));
            }
        }
        CHECKS.finish();
    }

    private static List<Call> nothingYet() {
        return List.of();
    }

    private static List<Call> bandOfEachKind() {
        return Call.script("seed 5", "band 6 3 2 1 9", "image", "act 0 2 9",
                "band 1 4 12 0 3", "band 2 9999 5 0 0", "band 3 2 7 1 4", "band 4 5000 1 1 2", "band 5 1 11 0 1",
                "paint 1 11 7", "paint 1 0 3", "paint 2 2 5", "cut 0 0", "letters 7 0 left 9", "table 7",
                "show 0 0", "show 1 5", "show 6 2", "row 2 0 0",
                "row 3 1 6", "set 3 0 3", "set 3 1 -5", "set 3 4 1", "set 3 5 8",
                "row 4 1 5", "set 4 0 1", "set 4 1 2", "set 4 2 3",
                "row 5 3 160", "set 5 0 1", "set 5 1 9223372036854775807", "set 5 159 -1");
    }

    private static List<Call> threeBands() {
        return Call.script("band 0 3 5 0 7", "band 0 4997 2 1 0", "band 5 0 4 1 0", "paint 0 1 7", "paint 2 3 2",
                "image", "twist 0 2", "goes", "band 2 3 4 1 5", "act 2 1 -4", "letters 0 0 band 6 1 1 0;right 3",
                "letters 1 3 left 2", "letters 2 2 left 2;", "letters 3 1 paint 0 5 1", "row 4 2 3",
                "set 4 0 1", "set 4 1 1", "set 4 2 1", "show 5 2", "show 6 1");
    }

    private static void tryAll(String name, List<Call> scene) {
        for (Call call : Numbers.allCalls(name)) {
            DownTheMiddle x = new DownTheMiddle();
            Paper due = new Paper();
            for (Call before : scene) {
                before.of(x);
                before.of(due);
            }
            CHECKS.due(call.toString(), call.of(x), call.of(due));
            CHECKS.due("refusals after " + call, Told.refusals(x), Told.refusals(due));
            CHECKS.due("all after " + call, Told.all(x), Told.all(due));
            CHECKS.due("restore() after " + call, x.restore(), due.restore());
            CHECKS.due("the image after " + call, Told.bands(x), Told.bands(due));
        }
    }
}
