import java.util.ArrayList;
import java.util.Arrays;
import java.util.List;
import java.util.TreeSet;
import java.util.function.IntPredicate;

/** A second program of the document, for the tests: the same face, word by word, with no regard to speed. */
final class Paper {
    static final int NONE = -1;
    private static final int MOST_BANDS = 6;

    private final List<Band> bands = new ArrayList<>();
    private final Object[] shelves = new Object[8];
    private final int[] refused = new int[8];
    private final List<Integer> bodies = new ArrayList<>();
    private int seed = 1;
    private int snips;
    private int fault = NONE;
    private List<Band> imageBands;
    private int imageSeed;
    private int imageSnips;

    // ---- what there is ----

    private record Row(int sort, long[] elements) {
        boolean has(int i) {
            return i >= 0 && i < elements.length;
        }

        void put(int i, long v) {
            elements[i] = switch (sort) {
                case 0 -> (byte) v;
                case 1 -> (short) v;
                case 2 -> (int) v;
                default -> v;
            };
        }
    }

    private record Shown(int band) { }

    static class Band {
        int number;
        int twists;
        int strips;
        int hand;
        int a;
        int[] colours = new int[12];
        List<Integer> bodies = new ArrayList<>();

        static Band ofKind(int kind) {
            Band[] kinds = {new Band(), new Lined(), new Swapped(), new Doubled(), new Plain(), new Mirror(), new Last()};
            return kinds[kind];
        }

        int kind() {
            return 0;
        }

        Band like(int otherTwists, int otherStrips) {
            Band other = ofKind(kind());
            other.number = number;
            other.twists = otherTwists;
            other.strips = otherStrips;
            other.hand = hand;
            other.a = a;
            other.colours = colours.clone();
            other.bodies = bodies;
            return other;
        }

        int on(int i) {
            return twists % 2 == 0 ? i : strips - 1 - i;
        }

        int goes(int x) {
            bodies.add(10);
            return x + number;
        }

        int turns(int x) {
            bodies.add(11);
            return goes(x) * 2;
        }

        int hooks(int x) {
            bodies.add(12);
            return turns(x) ^ goes(x - a);
        }
    }

    static class Lined extends Band {
        @Override
        int kind() {
            return 1;
        }

        @Override
        int on(int i) {
            return (super.on(i) + a) % strips;
        }

        @Override
        int goes(int x) {
            bodies.add(20);
            return super.goes(x) + a;
        }
    }

    static class Swapped extends Band {
        @Override
        int kind() {
            return 2;
        }

        @Override
        int on(int i) {
            int to = super.on(i);
            int pair = to % 2 == 0 ? to + 1 : to - 1;
            return pair < strips ? pair : to;
        }

        @Override
        int turns(int x) {
            bodies.add(30);
            return super.turns(x) * 3;
        }
    }

    static final class Doubled extends Lined {
        @Override
        int kind() {
            return 3;
        }

        @Override
        int on(int i) {
            return super.on(super.on(i));
        }

        @Override
        int turns(int x) {
            bodies.add(40);
            return super.turns(x + 1);
        }
    }

    static class Plain extends Band {
        @Override
        int kind() {
            return 4;
        }

        @Override
        int on(int i) {
            return i;
        }

        @Override
        int hooks(int x) {
            bodies.add(50);
            return -super.hooks(x);
        }

        @Override
        int goes(int x) {
            bodies.add(51);
            return super.goes(x) - number;
        }
    }

    static final class Mirror extends Swapped {
        @Override
        int kind() {
            return 5;
        }

        @Override
        int on(int i) {
            return strips - 1 - super.on(i);
        }

        @Override
        int hooks(int x) {
            bodies.add(60);
            return super.hooks(x) ^ 5;
        }
    }

    static final class Last extends Plain {
        @Override
        int kind() {
            return 6;
        }

        @Override
        int on(int i) {
            return i == 0 ? strips - 1 : i == strips - 1 ? 0 : super.on(i);
        }

        @Override
        int goes(int x) {
            bodies.add(70);
            return super.goes(x) * 2;
        }

        @Override
        int turns(int x) {
            bodies.add(71);
            return super.turns(x - a);
        }
    }

    /** The pieces of a band. */
    private static final class Cut {
        final Band band;
        final List<TreeSet<Integer>> pieces = new ArrayList<>();

        Cut(Band band) {
            this.band = band;
            for (int i = 0; i < band.strips; i++) {
                TreeSet<Integer> round = new TreeSet<>();
                for (int at = i; round.add(at);) {
                    at = band.on(at);
                }
                if (round.first() == i) {
                    pieces.add(round);
                }
            }
        }

        boolean has(int piece) {
            return piece >= 0 && piece < pieces.size();
        }

        int size(int piece) {
            return pieces.get(piece).size();
        }

        int turns(int piece) {
            return band.twists * size(piece) + 2 * (size(piece) - 1);
        }

        int crossings(int i, int j) {
            boolean keeps = (i < j) == (band.on(i) < band.on(j));
            boolean odd = band.twists % 2 == 1;
            return (band.hand == 0 ? -band.twists : band.twists) + (odd == keeps ? 1 : 0);
        }

        int hooks(int piece, int other) {
            int all = 0;
            for (int i : pieces.get(piece)) {
                for (int j : pieces.get(other)) {
                    all += crossings(i, j);
                }
            }
            if (all % 2 != 0) {
                throw new IllegalStateException("half a hook");
            }
            return all / 2;
        }

        int allHooks() {
            int all = 0;
            for (int p = 0; p < pieces.size(); p++) {
                for (int q = 0; q < p; q++) {
                    all += Math.abs(hooks(p, q));
                }
            }
            return all;
        }

        int groups() {
            int[] groupOf = new int[pieces.size()];
            for (int p = 0; p < groupOf.length; p++) {
                groupOf[p] = p;
                for (int q = 0; q < p; q++) {
                    int gone = groupOf[p];
                    int stays = groupOf[q];
                    if (hooks(p, q) != 0) {
                        Arrays.setAll(groupOf, r -> groupOf[r] == gone ? stays : groupOf[r]);
                    }
                }
            }
            return (int) Arrays.stream(groupOf).distinct().count();
        }

        int unhook() {
            List<Integer> pairs = new ArrayList<>();
            for (int p = 0; p < pieces.size(); p++) {
                for (int q = 0; q < p; q++) {
                    if (hooks(p, q) != 0) {
                        pairs.add(1 << p | 1 << q);
                    }
                }
            }
            for (int many = 0; many <= pieces.size(); many++) {
                for (int taken = 0; taken < 1 << pieces.size(); taken++) {
                    int left = taken;
                    if (Integer.bitCount(taken) == many && pairs.stream().allMatch(pair -> (pair & left) != 0)) {
                        return taken;
                    }
                }
            }
            throw new IllegalStateException("all pieces cut across, and two hang together still");
        }

        int bits(IntPredicate isSo) {
            int bits = 0;
            for (int p = 0; p < pieces.size(); p++) {
                bits |= isSo.test(p) ? 1 << p : 0;
            }
            return bits;
        }

        int toRepaint(int piece) {
            int[] many = new int[8];
            for (int i : pieces.get(piece)) {
                many[band.colours[i]]++;
            }
            return size(piece) - Arrays.stream(many).max().getAsInt();
        }

        int[] sortedTurns() {
            int[] turns = new int[pieces.size()];
            Arrays.setAll(turns, this::turns);
            Arrays.sort(turns);
            return turns;
        }
    }

    // ---- what the calls share ----

    private int no(int which, int base) {
        refused[which]++;
        return -base - which;
    }

    private int no(int which) {
        return no(which, 0);
    }

    private static boolean isFrom(int least, int greatest, int number) {
        return number >= least && number <= greatest;
    }

    private boolean isBand(int band) {
        return isFrom(0, bands.size() - 1, band);
    }

    private boolean isStrip(int band, int strip) {
        return isBand(band) && isFrom(0, bands.get(band).strips - 1, strip);
    }

    private Cut cutOf(int band) {
        return new Cut(bands.get(band));
    }

    private boolean isPiece(int band, int piece) {
        return isBand(band) && cutOf(band).has(piece);
    }

    private void add(int kind, int twists, int strips, int hand, int a) {
        Band made = Band.ofKind(kind);
        made.number = bands.size();
        made.twists = twists;
        made.strips = strips;
        made.hand = hand;
        made.a = a;
        made.bodies = bodies;
        bands.add(made);
    }

    // ---- promises 2 to 8 ----

    public int row(int s, int sort, int n) {
        if (!isFrom(0, 7, s)) {
            return no(1);
        }
        if (n < 0) {
            return no(4);
        }
        if (!isFrom(0, 3, sort)) {
            return no(6);
        }
        if (n > 160) {
            return no(7);
        }
        shelves[s] = new Row(sort, new long[n]);
        return 1;
    }

    private int notARow(int s) {
        if (!isFrom(0, 7, s)) {
            return 1;
        }
        return shelves[s] instanceof Shown ? 2 : shelves[s] == null ? 3 : 0;
    }

    public int set(int s, int i, long v) {
        if (notARow(s) != 0) {
            return no(notARow(s));
        }
        Row row = (Row) shelves[s];
        if (!row.has(i)) {
            return no(5);
        }
        row.put(i, v);
        return 1;
    }

    public int copy(int p, int q, int i, int j, int n) {
        if (!isFrom(0, 7, p) || !isFrom(0, 7, q)) {
            return no(1);
        }
        if (shelves[p] instanceof Shown || shelves[q] instanceof Shown) {
            return no(2);
        }
        if (shelves[p] instanceof Row from && shelves[q] instanceof Row to && from.sort != to.sort) {
            return no(2);
        }
        if (shelves[p] == null || shelves[q] == null) {
            return no(3);
        }
        if (n < 0) {
            return no(4);
        }
        Row from = (Row) shelves[p];
        Row to = (Row) shelves[q];
        if (i < 0 || j < 0 || (long) i + n > from.elements.length || (long) j + n > to.elements.length) {
            return no(5);
        }
        long[] ahead = from.elements.clone();
        for (int k = 0; k < n; k++) {
            to.elements[j + k] = ahead[i + k];
        }
        return 1;
    }

    public long element(int s, int i) {
        return notARow(s) == 0 && ((Row) shelves[s]).has(i) ? ((Row) shelves[s]).elements[i] : 0;
    }

    public int show(int s, int band) {
        if (!isFrom(0, 7, s) || !isBand(band) && band != NONE) {
            return no(1);
        }
        shelves[s] = band == NONE ? null : new Shown(band);
        return band == NONE ? 0 : 1;
    }

    public int holds(int s) {
        if (!isFrom(0, 7, s) || shelves[s] == null) {
            return NONE;
        }
        return shelves[s] instanceof Shown shown ? shown.band : 100 + ((Row) shelves[s]).sort;
    }

    public int says(int s, int kind) {
        if (!isFrom(0, 7, s) || !isFrom(0, 6, kind)) {
            return no(1);
        }
        if (shelves[s] instanceof Row) {
            return no(2);
        }
        if (shelves[s] == null) {
            return no(3);
        }
        Band band = bands.get(((Shown) shelves[s]).band);
        if (!Band.ofKind(kind).getClass().isInstance(band)) {
            return no(2);
        }
        int keeping = 0;
        int paired = 0;
        for (int i = 0; i < band.strips; i++) {
            keeping += band.on(i) == i ? 1 : 0;
            paired += (i % 2 == 0 ? i + 1 : i - 1) < band.strips ? 1 : 0;
        }
        int[] said = {band.twists, band.on(0), paired, band.on(band.strips - 1), keeping, keeping, band.a};
        return said[kind];
    }

    // ---- promises 9 to 15 ----

    public int band(int kind, int twists, int strips, int hand, int a) {
        if (!isFrom(0, 6, kind)) {
            return no(1);
        }
        if (!isFrom(0, 9999, twists) || !isFrom(1, 12, strips) || !isFrom(0, 1, hand) || !isFrom(0, 9, a)) {
            return no(6);
        }
        if (bands.size() == MOST_BANDS) {
            return no(7);
        }
        add(kind, twists, strips, hand, a);
        return bands.size() - 1;
    }

    public int bandOf(int band, int what) {
        if (!isBand(band)) {
            return no(5);
        }
        Band told = bands.get(band);
        int[] known = {told.kind(), told.twists, told.strips, told.hand, told.a};
        if (isFrom(0, 4, what)) {
            return known[what];
        }
        return isFrom(10, 9 + told.strips, what) ? told.colours[what - 10] : no(5);
    }

    public int twist(int band, int v) {
        if (!isBand(band)) {
            return no(1);
        }
        if (!isFrom(0, 9999, v)) {
            return no(6);
        }
        int was = bands.get(band).twists;
        bands.get(band).twists = v;
        return was;
    }

    public int turn(int band) {
        if (!isBand(band)) {
            return no(1);
        }
        bands.get(band).hand = 1 - bands.get(band).hand;
        return bands.get(band).hand;
    }

    public int paint(int band, int strip, int colour) {
        if (!isStrip(band, strip)) {
            return no(1);
        }
        if (!isFrom(0, 7, colour)) {
            return no(6);
        }
        int was = bands.get(band).colours[strip];
        bands.get(band).colours[strip] = colour;
        return was;
    }

    public int table(int s) {
        if (notARow(s) != 0) {
            return no(notARow(s));
        }
        List<Integer> stripsOfBands = new ArrayList<>();
        bands.forEach(band -> stripsOfBands.add(band.strips));
        Reader reader = new Reader(textOf((Row) shelves[s]), stripsOfBands);
        try {
            reader.read();
            fault = NONE;
        } catch (Fault found) {
            fault = found.place;
            return no(6);
        }
        reader.items.forEach(this::tell);
        return reader.items.size();
    }

    private static String textOf(Row row) {
        StringBuilder text = new StringBuilder();
        for (long v : row.elements) {
            boolean isSign = (int) v >= 1 && (int) v <= 127;
            text.append(isSign ? (char) (int) v : '?');
        }
        return text.toString();
    }

    private void tell(int[] item) {
        switch (item[0]) {
            case 0 -> add(item[1], item[2], item[3], 0, item[4]);
            case 1 -> bands.get(item[1]).hand = 1;
            case 2 -> bands.get(item[1]).hand = 0;
            case 3 -> bands.get(item[1]).colours[item[2]] = item[3];
            default -> bands.get(item[1]).twists = item[2];
        }
    }

    private static final class Fault extends Exception {
        final int place;

        Fault(int place) {
            this.place = place;
        }
    }

    private static final class Reader {
        private static final String[] WORDS = {"band", "right", "left", "paint", "twist"};
        final String text;
        final List<Integer> stripsOfBands;
        final List<int[]> items = new ArrayList<>();
        int at;

        Reader(String text, List<Integer> stripsOfBands) {
            this.text = text;
            this.stripsOfBands = stripsOfBands;
        }

        void read() throws Fault {
            item();
            while (at < text.length()) {
                sign(';');
                item();
            }
        }

        private void sign(char due) throws Fault {
            if (at == text.length() || text.charAt(at) != due) {
                throw new Fault(at);
            }
            at++;
        }

        private int word() throws Fault {
            int most = 0;
            for (int w = 0; w < WORDS.length; w++) {
                int same = 0;
                while (same < WORDS[w].length() && text.startsWith(WORDS[w].substring(0, same + 1), at)) {
                    same++;
                }
                if (same == WORDS[w].length()) {
                    return w;
                }
                most = Math.max(most, same);
            }
            throw new Fault(at + most);
        }

        private int number(int least, int greatest) throws Fault {
            sign(' ');
            String digits = text.substring(at).replaceFirst("(?s)[^0-9].*", "");
            if (digits.isEmpty()) {
                throw new Fault(at);
            }
            int value = Integer.parseInt(digits.substring(0, Math.min(4, digits.length())));
            if (!isFrom(least, greatest, value)) {
                throw new Fault(at);
            }
            at += Math.min(4, digits.length());
            return value;
        }

        private void item() throws Fault {
            int word = word();
            if (word == 0 && stripsOfBands.size() == MOST_BANDS) {
                throw new Fault(at);
            }
            at += WORDS[word].length();
            if (word == 0) {
                items.add(new int[] {0, number(0, 6), number(0, 9999), number(1, 12), number(0, 9)});
                stripsOfBands.add(items.get(items.size() - 1)[3]);
                return;
            }
            int band = number(0, stripsOfBands.size() - 1);
            if (word == 3) {
                items.add(new int[] {3, band, number(0, stripsOfBands.get(band) - 1), number(0, 7)});
            } else {
                items.add(new int[] {word, band, word == 4 ? number(0, 9999) : 0});
            }
        }
    }

    public int fault() {
        return fault;
    }

    // ---- promises 16 to 27 ----

    public int on(int band, int strip) {
        return isStrip(band, strip) ? bands.get(band).on(strip) : no(1);
    }

    public int pieces(int band) {
        return isBand(band) ? cutOf(band).pieces.size() : no(1);
    }

    public int pieceOf(int band, int piece, int what) {
        if (!isPiece(band, piece)) {
            return no(1);
        }
        if (!isFrom(0, 3, what)) {
            return no(5);
        }
        Cut cut = cutOf(band);
        int strips = cut.pieces.get(piece).stream().mapToInt(i -> 1 << i).sum();
        int[] told = {cut.size(piece), strips, cut.turns(piece), cut.turns(piece) % 2 == 1 ? 1 : 2};
        return told[what];
    }

    public int pieceAt(int band, int strip) {
        if (!isStrip(band, strip)) {
            return no(1);
        }
        return Integer.numberOfTrailingZeros(cutOf(band).bits(p -> cutOf(band).pieces.get(p).contains(strip)));
    }

    public int crossings(int band, int strip, int other) {
        if (!isStrip(band, strip) || !isStrip(band, other)) {
            return no(1, 1000000);
        }
        return strip == other ? no(6, 1000000) : cutOf(band).crossings(strip, other);
    }

    public int hooks(int band, int piece, int other) {
        if (!isPiece(band, piece) || !isPiece(band, other)) {
            return no(1, 1000000);
        }
        return piece == other ? no(6, 1000000) : cutOf(band).hooks(piece, other);
    }

    public int allHooks(int band) {
        return isBand(band) ? cutOf(band).allHooks() : no(1);
    }

    public int groups(int band) {
        return isBand(band) ? cutOf(band).groups() : no(1);
    }

    public int unhook(int band) {
        return isBand(band) ? cutOf(band).unhook() : no(1);
    }

    public int painted(int band) {
        if (!isBand(band)) {
            return no(1);
        }
        Cut cut = cutOf(band);
        return cut.bits(p -> cut.pieces.get(p).stream().mapToInt(i -> cut.band.colours[i]).distinct().count() == 1);
    }

    public int repaint(int band) {
        if (!isBand(band)) {
            return no(1);
        }
        Cut cut = cutOf(band);
        int all = 0;
        for (int p = 0; p < cut.pieces.size(); p++) {
            all += cut.toRepaint(p);
        }
        return all;
    }

    public int worn(int band) {
        if (!isBand(band)) {
            return no(1);
        }
        Cut cut = cutOf(band);
        return cut.bits(p -> cut.turns(p) % 2 == 1);
    }

    // ---- promises 28 to 34 ----

    public long law(int h, int n, int what) {
        if (!isFrom(0, 3, what)) {
            return no(5);
        }
        if (!isFrom(0, 1000000000, h) || !isFrom(1, 1000000000, n)) {
            return no(6);
        }
        boolean odd = h % 2 == 1;
        long pieces = odd ? n / 2 + n % 2 : n;
        long first = odd && n > 1 ? 2 : 1;
        long second = odd && n > 3 ? 2 : 1;
        long[] told = {pieces, first, h * first + 2 * (first - 1), pieces < 2 ? 0 : first * second * h / 2};
        return told[what];
    }

    private int notTold(int band, int s, int n) {
        if (!isBand(band)) {
            return 1;
        }
        if (notARow(s) != 0) {
            return notARow(s);
        }
        return n < 0 ? 4 : n > ((Row) shelves[s]).elements.length ? 5 : 0;
    }

    private int[] told(int s, int n) {
        return Arrays.stream(((Row) shelves[s]).elements).limit(n).mapToInt(v -> (int) v).toArray();
    }

    public int judge(int band, int s, int n) {
        if (notTold(band, s, n) != 0) {
            return no(notTold(band, s, n), 10);
        }
        int[] sizes = cutOf(band).pieces.stream().mapToInt(TreeSet::size).toArray();
        return Arrays.mismatch(told(s, n), sizes);
    }

    public long fits(int band, int s, int n) {
        if (notTold(band, s, n) != 0) {
            return no(notTold(band, s, n));
        }
        int[] turns = told(s, n);
        Arrays.sort(turns);
        long bits = 0;
        for (int t = 0; t <= 40; t++) {
            Band tried = bands.get(band).like(t, bands.get(band).strips);
            bits |= Arrays.equals(new Cut(tried).sortedTurns(), turns) ? 1L << t : 0;
        }
        return bits;
    }

    public int make(int k, int turns) {
        if (!isFrom(1, 12, k) || turns < 0) {
            return no(6, 10);
        }
        for (int strips = 1; strips <= 12; strips++) {
            for (int t = 0; t <= 40; t++) {
                Cut cut = new Cut(new Band().like(t, strips));
                int longest = 0;
                for (int p = 0; p < cut.pieces.size(); p++) {
                    longest = cut.size(p) > cut.size(longest) ? p : longest;
                }
                if (cut.pieces.size() == k && cut.turns(longest) == turns) {
                    return 100 * strips + t;
                }
            }
        }
        return NONE;
    }

    public int leastTwist(int band, int k) {
        if (!isBand(band)) {
            return no(1, 10);
        }
        if (!isFrom(1, 12, k)) {
            return no(6, 10);
        }
        Band asked = bands.get(band);
        for (int more = 0; more <= 40; more++) {
            if (new Cut(asked.like(asked.twists + more, asked.strips)).pieces.size() == k) {
                return more;
            }
        }
        return NONE;
    }

    public int most(int band) {
        if (!isBand(band)) {
            return no(1);
        }
        int best = 1;
        int hooked = 0;
        for (int strips = 1; strips <= 12; strips++) {
            int now = new Cut(bands.get(band).like(bands.get(band).twists, strips)).allHooks();
            best = now > hooked ? strips : best;
            hooked = Math.max(now, hooked);
        }
        return best;
    }

    public int cross(int band, int other, int what) {
        if (!isBand(band) || !isBand(other)) {
            return no(1);
        }
        if (!isFrom(0, 1, what)) {
            return no(5);
        }
        if (band == other) {
            return no(6);
        }
        boolean firstEven = bands.get(band).twists % 2 == 0;
        boolean otherEven = bands.get(other).twists % 2 == 0;
        // Corners: 0 right above, 1 right below, 2 left above, 3 left below.
        int[][] joined = {
            {0, firstEven ? 2 : 3}, {1, firstEven ? 3 : 2},
            {0, otherEven ? 1 : 3}, {2, otherEven ? 3 : 1}};
        int[] piece = {0, 1, 2, 3};
        for (int round = 0; round < 4; round++) {
            for (int[] pair : joined) {
                int least = Math.min(piece[pair[0]], piece[pair[1]]);
                piece[pair[0]] = least;
                piece[pair[1]] = least;
            }
        }
        int pieces = (int) Arrays.stream(piece).distinct().count();
        return what == 0 ? pieces : pieces == 2 && bands.get(band).hand != bands.get(other).hand ? 1 : 0;
    }

    // ---- promises 35 to 43 ----

    public int cut(int band, int piece) {
        if (!isPiece(band, piece)) {
            return no(1);
        }
        int turns = cutOf(band).turns(piece);
        if (turns > 9999) {
            return no(7);
        }
        bands.get(band).twists = turns;
        snips += bands.get(band).strips - 1;
        return turns;
    }

    private int draw(int below) {
        seed = (int) (seed * 1103515245L + 12345L);
        long unsigned = seed < 0 ? seed + 4294967296L : seed;
        return (int) (unsigned / 65536 % below);
    }

    public int draws(int n) {
        if (!isFrom(1, 6, n)) {
            return no(6);
        }
        int many = 0;
        while (many < n && bands.size() < MOST_BANDS) {
            int kind = draw(7);
            int twists = draw(9);
            int strips = draw(12) + 1;
            int hand = draw(2);
            add(kind, twists, strips, hand, draw(10));
            many++;
        }
        return many;
    }

    private void emptyShelves() {
        for (int s = 0; s < 8; s++) {
            if (shelves[s] instanceof Shown shown && shown.band >= bands.size()) {
                shelves[s] = null;
            }
        }
    }

    public int goes() {
        if (bands.isEmpty()) {
            return no(6);
        }
        bands.remove(bands.size() - 1);
        emptyShelves();
        return bands.size();
    }

    public int seed(int v) {
        int was = seed;
        seed = v;
        return was;
    }

    public int act(int band, int act, int x) {
        bodies.clear();
        if (!isBand(band) || !isFrom(0, 2, act)) {
            return 0;
        }
        Band acting = bands.get(band);
        return act == 0 ? acting.goes(x) : act == 1 ? acting.turns(x) : acting.hooks(x);
    }

    public int trace(int i) {
        return isFrom(0, Math.min(20, bodies.size()) - 1, i) ? bodies.get(i) : NONE;
    }

    private static List<Band> copies(List<Band> of) {
        List<Band> all = new ArrayList<>();
        of.forEach(band -> all.add(band.like(band.twists, band.strips)));
        return all;
    }

    public int image() {
        imageBands = copies(bands);
        imageSeed = seed;
        imageSnips = snips;
        return bands.size();
    }

    public int restore() {
        if (imageBands == null) {
            return no(6);
        }
        bands.clear();
        bands.addAll(copies(imageBands));
        seed = imageSeed;
        snips = imageSnips;
        emptyShelves();
        return bands.size();
    }

    public int status(int what) {
        if (isFrom(11, 17, what)) {
            return refused[what - 10];
        }
        int pieces = 0;
        for (int b = 0; b < bands.size(); b++) {
            pieces += cutOf(b).pieces.size();
        }
        int[] told = {bands.size(), pieces, snips, seed, bodies.size()};
        return isFrom(0, 4, what) ? told[what] : NONE;
    }
}
