import java.util.Arrays;
import java.util.Random;

/** Promises 14 and 15 for texts by a seed of their own, whole and spoiled, beside the second program. */
public final class AnyTextsTest {
    private static final Checks CHECKS = new Checks("AnyTextsTest");
    private static final String SIGNS = "bandrightleftpaintwis 0123456789;;  /:B\n";

    public static void main(String[] args) {
        for (int bands = 0; bands <= 6; bands++) {
            int many = bands;
            CHECKS.sentence("texts over " + bands + " bands", () -> textsOver(many));
        }
        CHECKS.finish();
    }

    private static void textsOver(int bands) {
        Random random = new Random(bands);
        for (int k = 0; k < 12000; k++) {
            String text = text(random, bands);
            tryText(k % 3 == 0 ? text : spoiled(text, random), bands, random.nextInt(4));
        }
    }

    private static void tryText(String text, int bands, int sort) {
        DownTheMiddle x = new DownTheMiddle();
        Paper due = new Paper();
        for (int b = 0; b < bands; b++) {
            x.band(b, b, b * 2 + 1, 1, b);
            due.band(b, b, b * 2 + 1, 1, b);
        }
        for (Call call : Call.letters(0, sort, text)) {
            call.of(x);
            call.of(due);
        }
        CHECKS.due("table(" + text + ")", x.table(0), due.table(0));
        CHECKS.due("fault of " + text, x.fault(), due.fault());
        CHECKS.due("bands after " + text, Told.bands(x), Told.bands(due));
    }

    private static String text(Random random, int bands) {
        int[] strips = new int[7];
        Arrays.setAll(strips, b -> b * 2 + 1);
        int known = bands;
        StringBuilder text = new StringBuilder();
        int items = 1 + random.nextInt(6);
        for (int k = 0; k < items; k++) {
            text.append(k > 0 ? ";" : "");
            if (random.nextInt(3) == 0 || known == 0) {
                int made = 1 + random.nextInt(12);
                text.append("band").append(number(random, 0, 6)).append(number(random, 0, 9999))
                        .append(number(random, made, made)).append(number(random, 0, 9));
                strips[Math.min(known, 6)] = made;
                known = Math.min(known + 1, 6);
                continue;
            }
            int band = random.nextInt(known);
            String of = number(random, band, band);
            switch (random.nextInt(4)) {
                case 0 -> text.append("right").append(of);
                case 1 -> text.append("left").append(of);
                case 2 -> text.append("twist").append(of).append(number(random, 0, 9999));
                default -> text.append("paint").append(of).append(number(random, 0, strips[band] - 1)).append(number(random, 0, 7));
            }
        }
        return text.substring(0, Math.min(160, text.length()));
    }

    /** A number between these, now and then the first on either side of them, or with zeros ahead. */
    private static String number(Random random, int least, int greatest) {
        int choice = random.nextInt(40);
        int number = choice == 0 ? least : choice == 1 ? greatest : choice == 2 ? greatest + 1
                : choice == 3 ? Math.max(0, least - 1) : least + random.nextInt(greatest - least + 1);
        String digits = String.valueOf(number);
        int zeros = random.nextInt(6) == 0 ? random.nextInt(4) : 0;
        return " " + "0".repeat(zeros) + digits;
    }

    private static String spoiled(String text, Random random) {
        StringBuilder spoiled = new StringBuilder(text);
        int at = random.nextInt(text.length());
        switch (random.nextInt(4)) {
            case 0 -> spoiled.setCharAt(at, SIGNS.charAt(random.nextInt(SIGNS.length())));
            case 1 -> spoiled.deleteCharAt(at);
            case 2 -> spoiled.setLength(at);
            default -> spoiled.insert(at, SIGNS.charAt(random.nextInt(SIGNS.length())));
        }
        return spoiled.substring(0, Math.min(160, spoiled.length()));
    }
}
