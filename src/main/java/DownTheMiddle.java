import java.util.Arrays;

/** Bands of paper with half twists that are cut along lines, and what comes of it. */
public final class DownTheMiddle {
    public static final int NONE = -1;

    private static final int MOST_BANDS = 6;
    private static final int MOST_STRIPS = 12;
    private static final int MOST_TWISTS = 9999;
    private static final int MOST_A = 9;
    private static final int MOST_COLOUR = 7;
    private static final int MOST_ELEMENTS = 160;
    private static final int MOST_TRIED_TWISTS = 40;
    private static final long MOST_OF_LAW = 1000000000L;
    private static final int SHELVES = 8;

    private static final int BAND = 0;
    private static final int LINED = 1;
    private static final int SWAPPED = 2;
    private static final int DOUBLE = 3;
    private static final int PLAIN = 4;
    private static final int MIRROR = 5;
    private static final int LAST = 6;
    /** The next kind above each kind. */
    private static final int[] KIND_ABOVE = {NONE, BAND, BAND, LINED, BAND, SWAPPED, PLAIN};

    private static final int LEFT = 0;
    private static final int RIGHT = 1;

    private static final int FITTING = 0;
    private static final int NOBODY = 1;
    private static final int OTHER = 2;
    private static final int NOTHING = 3;
    private static final int BELOW = 4;
    private static final int BEYOND = 5;
    private static final int WRONG = 6;
    private static final int ROOM = 7;

    /** Refusals of calls whose own answers may be small numbers below 0 are set off by these. */
    private static final int OFF_BY_TEN = 10;
    private static final int OFF_BY_MILLION = 1000000;

    private final Shelf[] shelves = new Shelf[SHELVES];
    private final Band[] bands = new Band[MOST_BANDS];
    private final Band[] imageBands = new Band[MOST_BANDS];
    private final int[] refusals = new int[ROOM + 1];
    private final Cutting cutting = new Cutting();
    private final TableReader reader = new TableReader();
    private final Trace trace = new Trace();
    private int bandCount;
    private int seed = 1;
    private int snips;
    private int imageCount = NONE;
    private int imageSeed;
    private int imageSnips;
    private int latestFault = NONE;

    public DownTheMiddle() {
        for (int s = 0; s < SHELVES; s++) {
            shelves[s] = new Shelf();
        }
        for (int b = 0; b < MOST_BANDS; b++) {
            bands[b] = new Band(b);
            imageBands[b] = new Band(b);
        }
    }

    // ---- rows and shelves ----

    public int row(int s, int sort, int n) {
        if (!isShelf(s)) {
            return refuse(NOBODY);
        }
        if (n < 0) {
            return refuse(BELOW);
        }
        if (sort < Shelf.BYTES || sort > Shelf.LONGS) {
            return refuse(WRONG);
        }
        if (n > MOST_ELEMENTS) {
            return refuse(ROOM);
        }
        shelves[s].holdRow(sort, n);
        return 1;
    }

    public int set(int s, int i, long v) {
        int bad = rowRefusal(s);
        if (bad == FITTING && !shelves[s].hasElement(i)) {
            bad = BEYOND;
        }
        if (bad != FITTING) {
            return refuse(bad);
        }
        shelves[s].put(i, v);
        return 1;
    }

    public int copy(int p, int q, int i, int j, int n) {
        int bad = copyRefusal(p, q, i, j, n);
        if (bad != FITTING) {
            return refuse(bad);
        }
        System.arraycopy(shelves[p].elements, i, shelves[q].elements, j, n);
        return 1;
    }

    public long element(int s, int i) {
        return isShelf(s) && shelves[s].hasElement(i) ? shelves[s].elementAt(i) : 0L;
    }

    public int show(int s, int band) {
        if (!isShelf(s) || (band != NONE && !isBand(band))) {
            return refuse(NOBODY);
        }
        shelves[s].held = band;
        return band == NONE ? 0 : 1;
    }

    public int holds(int s) {
        return isShelf(s) ? shelves[s].held : NONE;
    }

    public int says(int s, int kind) {
        if (!isShelf(s) || !isKind(kind)) {
            return refuse(NOBODY);
        }
        Band shown = bandAt(shelves[s].held);
        if (shelves[s].hasRow() || (shown != null && !isOfKind(shown, kind))) {
            return refuse(OTHER);
        }
        if (shown == null) {
            return refuse(NOTHING);
        }
        return saying(shown, kind);
    }

    private static int saying(Band shown, int kind) {
        switch (kind) {
            case LINED:
                return shown.follower(0);
            case SWAPPED:
                return shown.strips - shown.strips % 2;
            case DOUBLE:
                return shown.follower(shown.strips - 1);
            case PLAIN:
            case MIRROR:
                return shown.stayingStrips();
            case LAST:
                return shown.a;
            default:
                return shown.twists;
        }
    }

    private static boolean isOfKind(Band shown, int kind) {
        // No kind stands more than two under BAND, and every kind is under BAND.
        boolean isNextAbove = isKind(shown.kind) && kind == KIND_ABOVE[shown.kind];
        return kind == BAND || kind == shown.kind || isNextAbove;
    }

    // ---- bands and tables ----

    public int band(int kind, int twists, int strips, int hand, int a) {
        if (!isKind(kind)) {
            return refuse(NOBODY);
        }
        boolean cutFits = areTwists(twists) && strips >= 1 && strips <= MOST_STRIPS;
        if (!cutFits || (hand != LEFT && hand != RIGHT) || a < 0 || a > MOST_A) {
            return refuse(WRONG);
        }
        if (bandCount >= MOST_BANDS) {
            return refuse(ROOM);
        }
        addBand(kind, twists, strips, hand, a);
        return bandCount - 1;
    }

    public int bandOf(int band, int what) {
        Band asked = bandAt(band);
        if (asked == null) {
            return refuse(BEYOND);
        }
        switch (what) {
            case 0:
                return asked.kind;
            case 1:
                return asked.twists;
            case 2:
                return asked.strips;
            case 3:
                return asked.hand;
            case 4:
                return asked.a;
            default:
                return what >= 10 && asked.hasStrip(what - 10) ? asked.colours[what - 10] : refuse(BEYOND);
        }
    }

    public int twist(int band, int v) {
        Band twisted = bandAt(band);
        if (twisted == null) {
            return refuse(NOBODY);
        }
        if (!areTwists(v)) {
            return refuse(WRONG);
        }
        int before = twisted.twists;
        twisted.twists = v;
        return before;
    }

    public int turn(int band) {
        Band turned = bandAt(band);
        if (turned == null) {
            return refuse(NOBODY);
        }
        turned.hand = turned.hand == LEFT ? RIGHT : LEFT;
        return turned.hand;
    }

    public int paint(int band, int strip, int colour) {
        Band coloured = bandAt(band);
        if (coloured == null || !coloured.hasStrip(strip)) {
            return refuse(NOBODY);
        }
        if (colour < 0 || colour > MOST_COLOUR) {
            return refuse(WRONG);
        }
        int before = coloured.colours[strip];
        coloured.colours[strip] = colour;
        return before;
    }

    public int table(int s) {
        int bad = rowRefusal(s);
        if (bad != FITTING) {
            return refuse(bad);
        }
        reader.begin(shelves[s], bands, bandCount);
        reader.readItems();
        latestFault = reader.fault;
        if (latestFault != NONE) {
            return refuse(WRONG);
        }
        for (int item = 0; item < reader.items; item++) {
            carryOut(item);
        }
        return reader.items;
    }

    private void carryOut(int item) {
        int first = reader.number(item, 0);
        int second = reader.number(item, 1);
        int third = reader.number(item, 2);
        int word = reader.word(item);
        if (word == TableReader.BAND_WORD) {
            addBand(first, second, third, LEFT, reader.number(item, 3));
            return;
        }
        Band told = bandAt(first);
        if (told == null) {
            return;
        }
        if (word == TableReader.PAINT_WORD && told.hasStrip(second)) {
            told.colours[second] = third;
        } else if (word == TableReader.TWIST_WORD) {
            told.twists = second;
        } else if (word == TableReader.RIGHT_WORD) {
            told.hand = RIGHT;
        } else if (word == TableReader.LEFT_WORD) {
            told.hand = LEFT;
        }
    }

    public int fault() {
        return latestFault;
    }

    // ---- how a band is cut ----

    public int on(int band, int strip) {
        Band asked = bandAt(band);
        if (asked == null || !asked.hasStrip(strip)) {
            return refuse(NOBODY);
        }
        return asked.follower(strip);
    }

    public int pieces(int band) {
        Band asked = bandAt(band);
        return asked == null ? refuse(NOBODY) : laid(asked).count;
    }

    public int pieceOf(int band, int piece, int what) {
        Band asked = bandAt(band);
        if (asked == null || !laid(asked).hasPiece(piece)) {
            return refuse(NOBODY);
        }
        switch (what) {
            case 0:
                return cutting.size(piece);
            case 1:
                return cutting.members(piece);
            case 2:
                return cutting.turnsOf(piece);
            case 3:
                return cutting.isOneSided(piece) ? 1 : 2;
            default:
                return refuse(BEYOND);
        }
    }

    public int pieceAt(int band, int strip) {
        Band asked = bandAt(band);
        if (asked == null || !asked.hasStrip(strip)) {
            return refuse(NOBODY);
        }
        return laid(asked).pieceWith(strip);
    }

    public int crossings(int band, int strip, int other) {
        Band asked = bandAt(band);
        if (asked == null || !asked.hasStrip(strip) || !asked.hasStrip(other)) {
            return refuseOffBy(OFF_BY_MILLION, NOBODY);
        }
        if (strip == other) {
            return refuseOffBy(OFF_BY_MILLION, WRONG);
        }
        return laid(asked).crossing(strip, other);
    }

    public int hooks(int band, int piece, int other) {
        Band asked = bandAt(band);
        if (asked == null || !laid(asked).hasPiece(piece) || !cutting.hasPiece(other)) {
            return refuseOffBy(OFF_BY_MILLION, NOBODY);
        }
        if (piece == other) {
            return refuseOffBy(OFF_BY_MILLION, WRONG);
        }
        return cutting.hooksBetween(piece, other);
    }

    // ---- what comes of it ----

    public int allHooks(int band) {
        Band asked = bandAt(band);
        return asked == null ? refuse(NOBODY) : laid(asked).hooksInAll();
    }

    public int groups(int band) {
        Band asked = bandAt(band);
        return asked == null ? refuse(NOBODY) : laid(asked).hangingGroups();
    }

    public int unhook(int band) {
        Band asked = bandAt(band);
        return asked == null ? refuse(NOBODY) : laid(asked).fewestToCut();
    }

    public int painted(int band) {
        Band asked = bandAt(band);
        if (asked == null) {
            return refuse(NOBODY);
        }
        laid(asked);
        int bits = 0;
        for (int p = 0; p < cutting.count; p++) {
            if (asked.mostOfOneColour(cutting.members(p)) == cutting.size(p)) {
                bits |= 1 << p;
            }
        }
        return bits;
    }

    public int repaint(int band) {
        Band asked = bandAt(band);
        if (asked == null) {
            return refuse(NOBODY);
        }
        laid(asked);
        int strips = 0;
        for (int p = 0; p < cutting.count; p++) {
            strips += cutting.size(p) - asked.mostOfOneColour(cutting.members(p));
        }
        return strips;
    }

    public int worn(int band) {
        Band asked = bandAt(band);
        if (asked == null) {
            return refuse(NOBODY);
        }
        laid(asked);
        int bits = 0;
        for (int p = 0; p < cutting.count; p++) {
            if (cutting.isOneSided(p)) {
                bits |= 1 << p;
            }
        }
        return bits;
    }

    public int judge(int band, int s, int n) {
        int bad = toldRefusal(band, s, n);
        if (bad != FITTING) {
            return refuseOffBy(OFF_BY_TEN, bad);
        }
        laid(bands[band]);
        for (int i = 0; i < n; i++) {
            if (!cutting.hasPiece(i) || shelves[s].intAt(i) != cutting.size(i)) {
                return i;
            }
        }
        return cutting.count > n ? n : NONE;
    }

    public long fits(int band, int s, int n) {
        int bad = toldRefusal(band, s, n);
        if (bad != FITTING) {
            return refuse(bad);
        }
        Band asked = bands[band];
        long bits = 0L;
        for (int twists = 0; twists <= MOST_TRIED_TWISTS; twists++) {
            cutting.lay(asked, asked.strips, twists);
            if (cutting.hasJustTurns(shelves[s], n)) {
                bits |= 1L << twists;
            }
        }
        return bits;
    }

    public int leastTwist(int band, int k) {
        Band asked = bandAt(band);
        if (asked == null) {
            return refuseOffBy(OFF_BY_TEN, NOBODY);
        }
        if (k < 1 || k > MOST_STRIPS) {
            return refuseOffBy(OFF_BY_TEN, WRONG);
        }
        for (int more = 0; more <= MOST_TRIED_TWISTS; more++) {
            cutting.lay(asked, asked.strips, asked.twists + more);
            if (cutting.count == k) {
                return more;
            }
        }
        return NONE;
    }

    public int most(int band) {
        Band asked = bandAt(band);
        if (asked == null) {
            return refuse(NOBODY);
        }
        int best = 1;
        int bestHooks = 0;
        for (int strips = 1; strips <= MOST_STRIPS; strips++) {
            cutting.lay(asked, strips, asked.twists);
            int hooked = cutting.hooksInAll();
            if (hooked > bestHooks) {
                best = strips;
                bestHooks = hooked;
            }
        }
        return best;
    }

    public int cross(int band, int other, int what) {
        Band along = bandAt(band);
        Band across = bandAt(other);
        if (along == null || across == null) {
            return refuse(NOBODY);
        }
        if (what != 0 && what != 1) {
            return refuse(BEYOND);
        }
        if (band == other) {
            return refuse(WRONG);
        }
        // Only two odd bands join the same corners twice: any even one leads on to the other two.
        boolean two = isOdd(along.twists) && isOdd(across.twists);
        if (what == 0) {
            return two ? 2 : 1;
        }
        return two && along.hand != across.hand ? 1 : 0;
    }

    // ---- laws of bands of kind BAND ----

    public long law(int h, int n, int what) {
        if (what < 0 || what > 3) {
            return refuse(BEYOND);
        }
        if (h < 0 || h > MOST_OF_LAW || n < 1 || n > MOST_OF_LAW) {
            return refuse(WRONG);
        }
        switch (what) {
            case 0:
                return lawPieces(h, n);
            case 1:
                return lawSize(h, n);
            case 2:
                return turnsOfSize(h, lawSize(h, n));
            default:
                return lawHooks(h, n);
        }
    }

    public int make(int k, int turns) {
        if (k < 1 || k > MOST_STRIPS || turns < 0) {
            return refuseOffBy(OFF_BY_TEN, WRONG);
        }
        for (int strips = 1; strips <= MOST_STRIPS; strips++) {
            for (int twists = 0; twists <= MOST_TRIED_TWISTS; twists++) {
                long longest = turnsOfSize(twists, lawSize(twists, strips));
                if (lawPieces(twists, strips) == k && longest == turns) {
                    return 100 * strips + twists;
                }
            }
        }
        return NONE;
    }

    private static long lawPieces(int twists, int strips) {
        return isOdd(twists) ? (strips + 1L) / 2L : strips;
    }

    private static int lawSize(int twists, int strips) {
        return isOdd(twists) && strips > 1 ? 2 : 1;
    }

    private static long lawHooks(int twists, int strips) {
        if (lawPieces(twists, strips) < 2L) {
            return 0L;
        }
        if (!isOdd(twists)) {
            return twists / 2;
        }
        // Of three strips the middle one is a piece by itself: half as many strips meet.
        return strips == 3 ? twists : 2L * twists;
    }

    private static long turnsOfSize(int twists, int size) {
        return (long) twists * size + 2L * (size - 1);
    }

    // ---- cuts in truth, draws, image ----

    public int cut(int band, int piece) {
        Band asked = bandAt(band);
        if (asked == null || !laid(asked).hasPiece(piece)) {
            return refuse(NOBODY);
        }
        int kept = cutting.turnsOf(piece);
        if (kept > MOST_TWISTS) {
            return refuse(ROOM);
        }
        asked.twists = kept;
        snips += asked.strips - 1;
        return kept;
    }

    public int draws(int n) {
        if (n < 1 || n > MOST_BANDS) {
            return refuse(WRONG);
        }
        int drawn = Math.min(n, MOST_BANDS - bandCount);
        for (int k = 0; k < drawn; k++) {
            int kind = draw(LAST + 1);
            int twists = draw(9);
            int strips = draw(MOST_STRIPS) + 1;
            int hand = draw(2);
            addBand(kind, twists, strips, hand, draw(MOST_A + 1));
        }
        return drawn;
    }

    private int draw(int below) {
        seed = seed * 1103515245 + 12345;
        return below < 1 ? 0 : (seed >>> 16) % below;
    }

    public int goes() {
        if (bandCount < 1) {
            return refuse(WRONG);
        }
        bandCount--;
        clearShelvesOfGoneBands();
        return bandCount;
    }

    public int seed(int v) {
        int before = seed;
        seed = v;
        return before;
    }

    public int image() {
        for (int b = 0; b < bandCount && b < MOST_BANDS; b++) {
            imageBands[b].becomeLike(bands[b]);
        }
        imageCount = bandCount;
        imageSeed = seed;
        imageSnips = snips;
        return bandCount;
    }

    public int restore() {
        if (imageCount == NONE) {
            return refuse(WRONG);
        }
        for (int b = 0; b < imageCount && b < MOST_BANDS; b++) {
            bands[b].becomeLike(imageBands[b]);
        }
        bandCount = imageCount;
        seed = imageSeed;
        snips = imageSnips;
        clearShelvesOfGoneBands();
        return bandCount;
    }

    private void clearShelvesOfGoneBands() {
        for (int s = 0; s < SHELVES; s++) {
            if (shelves[s].hasBand() && !isBand(shelves[s].held)) {
                shelves[s].held = NONE;
            }
        }
    }

    // ---- acts ----

    public int act(int band, int act, int x) {
        trace.ran = 0;
        Band acting = bandAt(band);
        if (acting == null) {
            return 0;
        }
        return isAct(act) ? acting.run(act, x, trace) : 0;
    }

    public int trace(int i) {
        return trace.bodyAt(i);
    }

    public int status(int what) {
        if (what > 10 && what <= 10 + ROOM) {
            return refusals[what - 10];
        }
        switch (what) {
            case 0:
                return bandCount;
            case 1:
                return piecesOfAll();
            case 2:
                return snips;
            case 3:
                return seed;
            case 4:
                return trace.ran;
            default:
                return NONE;
        }
    }

    private int piecesOfAll() {
        int all = 0;
        for (int b = 0; b < bandCount && b < MOST_BANDS; b++) {
            all += laid(bands[b]).count;
        }
        return all;
    }

    // ---- what the calls share ----

    private int refuse(int which) {
        return refuseOffBy(0, which);
    }

    private int refuseOffBy(int base, int which) {
        if (which >= NOBODY && which <= ROOM) {
            refusals[which]++;
        }
        return -base - which;
    }

    private int rowRefusal(int s) {
        if (!isShelf(s)) {
            return NOBODY;
        }
        if (shelves[s].hasBand()) {
            return OTHER;
        }
        return shelves[s].hasRow() ? FITTING : NOTHING;
    }

    private int copyRefusal(int p, int q, int i, int j, int n) {
        if (!isShelf(p) || !isShelf(q)) {
            return NOBODY;
        }
        Shelf from = shelves[p];
        Shelf to = shelves[q];
        boolean bothRows = from.hasRow() && to.hasRow();
        if (from.hasBand() || to.hasBand() || (bothRows && from.held != to.held)) {
            return OTHER;
        }
        if (!bothRows) {
            return NOTHING;
        }
        if (n < 0) {
            return BELOW;
        }
        return from.hasElements(i, n) && to.hasElements(j, n) ? FITTING : BEYOND;
    }

    private int toldRefusal(int band, int s, int n) {
        if (!isBand(band)) {
            return NOBODY;
        }
        int bad = rowRefusal(s);
        if (bad != FITTING) {
            return bad;
        }
        if (n < 0) {
            return BELOW;
        }
        return shelves[s].hasElements(0, n) ? FITTING : BEYOND;
    }

    private static boolean isShelf(int s) {
        return s >= 0 && s < SHELVES;
    }

    private static boolean isKind(int kind) {
        return kind >= BAND && kind <= LAST;
    }

    private static boolean areTwists(int twists) {
        return twists >= 0 && twists <= MOST_TWISTS;
    }

    private static boolean isOdd(int number) {
        return (number & 1) == 1;
    }

    private static boolean isAct(int act) {
        return act >= Band.GOES && act <= Band.HOOKS;
    }

    private boolean isBand(int band) {
        return band >= 0 && band < bandCount;
    }

    private Band bandAt(int band) {
        return isBand(band) ? bands[band] : null;
    }

    private Cutting laid(Band asked) {
        cutting.lay(asked, asked.strips, asked.twists);
        return cutting;
    }

    private void addBand(int kind, int twists, int strips, int hand, int a) {
        if (bandCount >= MOST_BANDS) {
            return;
        }
        bands[bandCount].become(kind, twists, strips, hand, a);
        bandCount++;
    }

    /** Holds nothing, a row, or a band; its elements are made once and used for each row. */
    private static final class Shelf {
        static final int BYTES = 0;
        static final int SHORTS = 1;
        static final int INTS = 2;
        static final int LONGS = 3;
        private static final int ROWS = 100;

        /** As holds() tells it: NONE, the number of a band, or 100 and the sort of a row. */
        int held = NONE;
        int length;
        final long[] elements = new long[MOST_ELEMENTS];

        boolean hasRow() {
            return held >= ROWS;
        }

        boolean hasBand() {
            return held >= 0 && held < ROWS;
        }

        boolean hasElement(int i) {
            return hasRow() && i >= 0 && i < length;
        }

        boolean hasElements(int i, int n) {
            return hasRow() && i >= 0 && n >= 0 && i <= length && n <= length - i;
        }

        void holdRow(int sort, int n) {
            held = ROWS + sort;
            length = n;
            Arrays.fill(elements, 0L);
        }

        void put(int i, long v) {
            if (!hasElement(i)) {
                return;
            }
            switch (held - ROWS) {
                case BYTES:
                    elements[i] = (byte) v;
                    break;
                case SHORTS:
                    elements[i] = (short) v;
                    break;
                case INTS:
                    elements[i] = (int) v;
                    break;
                default:
                    elements[i] = v;
                    break;
            }
        }

        long elementAt(int i) {
            return hasElement(i) ? elements[i] : 0L;
        }

        int intAt(int i) {
            return (int) elementAt(i);
        }
    }

    /** A band; its number is its place for good, all else is set anew when a new band takes the place. */
    private static final class Band {
        static final int GOES = 0;
        static final int TURNS = 1;
        static final int HOOKS = 2;
        /** By act and kind, the body that runs: the kind's own, or that of the next kind above that has one. */
        private static final int[] GOES_BODIES = {10, 20, 10, 20, 51, 10, 70};
        private static final int[] TURNS_BODIES = {11, 11, 30, 40, 11, 30, 71};
        private static final int[] HOOKS_BODIES = {12, 12, 12, 12, 50, 60, 50};
        /** LAST hooks is the deepest, with seven bodies open at once. */
        private static final int MOST_OPEN_BODIES = 10;

        final int number;
        final int[] colours = new int[MOST_STRIPS];
        int kind;
        int twists;
        int strips;
        int hand;
        int a;

        Band(int number) {
            this.number = number;
        }

        void become(int kindNow, int twistsNow, int stripsNow, int handNow, int aNow) {
            kind = kindNow;
            twists = twistsNow;
            strips = stripsNow;
            hand = handNow;
            a = aNow;
            Arrays.fill(colours, 0);
        }

        void becomeLike(Band other) {
            become(other.kind, other.twists, other.strips, other.hand, other.a);
            System.arraycopy(other.colours, 0, colours, 0, MOST_STRIPS);
        }

        boolean hasStrip(int strip) {
            return strip >= 0 && strip < strips && strip < MOST_STRIPS;
        }

        int follower(int strip) {
            return followerIf(strip, strips, twists);
        }

        /** Where a strip would go on if the band had so many strips and twists. */
        int followerIf(int strip, int stripsThen, int twistsThen) {
            int last = stripsThen - 1;
            boolean odd = isOdd(twistsThen);
            int turned = odd ? last - strip : strip;
            switch (kind) {
                case LINED:
                    return shifted(turned, stripsThen);
                case SWAPPED:
                    return paired(turned, stripsThen);
                case DOUBLE:
                    int once = shifted(turned, stripsThen);
                    return shifted(odd ? last - once : once, stripsThen);
                case PLAIN:
                    return strip;
                case MIRROR:
                    return last - paired(turned, stripsThen);
                case LAST:
                    return strip == 0 || strip == last ? last - strip : strip;
                default:
                    return turned;
            }
        }

        private int shifted(int strip, int stripsThen) {
            return stripsThen < 1 ? 0 : (strip + a) % stripsThen;
        }

        private static int paired(int strip, int stripsThen) {
            int pair = strip ^ 1;
            return pair < stripsThen ? pair : strip;
        }

        int stayingStrips() {
            int staying = 0;
            for (int i = 0; i < strips; i++) {
                if (follower(i) == i) {
                    staying++;
                }
            }
            return staying;
        }

        int mostOfOneColour(int members) {
            int greatest = 0;
            for (int colour = 0; colour <= MOST_COLOUR; colour++) {
                int coloured = 0;
                for (int i = 0; i < MOST_STRIPS; i++) {
                    if ((members >> i & 1) == 1 && colours[i] == colour) {
                        coloured++;
                    }
                }
                greatest = Math.max(greatest, coloured);
            }
            return greatest;
        }

        int run(int act, int x, Trace trace) {
            return runBody(this, bodyOf(act), x, trace, 0);
        }

        private int bodyOf(int act) {
            if (!isKind(kind)) {
                return NONE;
            }
            switch (act) {
                case GOES:
                    return GOES_BODIES[kind];
                case TURNS:
                    return TURNS_BODIES[kind];
                default:
                    return HOOKS_BODIES[kind];
            }
        }

        private static int runBody(Band band, int body, int x, Trace trace, int depth) {
            if (depth > MOST_OPEN_BODIES) {
                return 0;
            }
            int deeper = depth + 1;
            trace.begin(body);
            switch (body) {
                case 10:
                    return x + band.number;
                case 11:
                    return runBody(band, band.bodyOf(GOES), x, trace, deeper) * 2;
                case 12:
                    int turned = runBody(band, band.bodyOf(TURNS), x, trace, deeper);
                    return turned ^ runBody(band, band.bodyOf(GOES), x - band.a, trace, deeper);
                case 20:
                    return runBody(band, 10, x, trace, deeper) + band.a;
                case 30:
                    return runBody(band, 11, x, trace, deeper) * 3;
                case 40:
                    return runBody(band, 11, x + 1, trace, deeper);
                case 50:
                    return -runBody(band, 12, x, trace, deeper);
                case 51:
                    return runBody(band, 10, x, trace, deeper) - band.number;
                case 60:
                    return runBody(band, 12, x, trace, deeper) ^ 5;
                case 70:
                    return runBody(band, 51, x, trace, deeper) * 2;
                case 71:
                    return runBody(band, 11, x - band.a, trace, deeper);
                default:
                    return 0;
            }
        }
    }

    /** The bodies that ran in the latest act. */
    private static final class Trace {
        private final int[] kept = new int[20];
        int ran;

        void begin(int body) {
            if (ran >= 0 && ran < kept.length) {
                kept[ran] = body;
            }
            ran++;
        }

        int bodyAt(int i) {
            return i >= 0 && i < ran && i < kept.length ? kept[i] : NONE;
        }
    }

    /** The pieces of a band cut along all lines; one object serves every cutting in turn. */
    private static final class Cutting {
        int count;
        private int strips;
        private int twists;
        private int sign;
        private final int[] followers = new int[MOST_STRIPS];
        private final int[] pieceOfStrip = new int[MOST_STRIPS];
        private final int[] membersOfPiece = new int[MOST_STRIPS];
        /** By two pieces, the lesser number first: the crossings of all strips of the one with all of the other. */
        private final int[] crossed = new int[MOST_STRIPS * MOST_STRIPS];
        private final int[] hungOn = new int[MOST_STRIPS];

        /** Cuts the band as if it had so many strips and twists. */
        void lay(Band band, int stripsThen, int twistsThen) {
            strips = Math.max(0, Math.min(stripsThen, MOST_STRIPS));
            twists = twistsThen;
            sign = band.hand == RIGHT ? 1 : -1;
            for (int i = 0; i < strips; i++) {
                followers[i] = band.followerIf(i, strips, twists);
                pieceOfStrip[i] = NONE;
            }
            count = 0;
            for (int i = 0; i < strips && count < MOST_STRIPS; i++) {
                if (pieceOfStrip[i] == NONE) {
                    followRound(i);
                    count++;
                }
            }
        }

        private void followRound(int first) {
            int members = 0;
            int at = first;
            for (int k = 0; k < strips && at >= 0 && at < strips; k++) {
                pieceOfStrip[at] = count;
                members |= 1 << at;
                at = followers[at];
            }
            membersOfPiece[count] = members;
        }

        boolean hasPiece(int piece) {
            return piece >= 0 && piece < count;
        }

        int pieceWith(int strip) {
            return strip >= 0 && strip < strips ? pieceOfStrip[strip] : NONE;
        }

        int members(int piece) {
            return hasPiece(piece) ? membersOfPiece[piece] : 0;
        }

        int size(int piece) {
            return Integer.bitCount(members(piece));
        }

        int turnsOf(int piece) {
            return (int) turnsOfSize(twists, size(piece));
        }

        boolean isOneSided(int piece) {
            return isOdd(turnsOf(piece));
        }

        int crossing(int strip, int other) {
            int low = Math.min(strip, other);
            int high = Math.max(strip, other);
            if (low < 0 || high >= strips) {
                return 0;
            }
            boolean keepsOrder = followers[low] < followers[high];
            return sign * twists + (isOdd(twists) == keepsOrder ? 1 : 0);
        }

        int hooksBetween(int piece, int other) {
            countCrossings();
            return hooksCounted(piece, other);
        }

        private void countCrossings() {
            Arrays.fill(crossed, 0);
            for (int i = 0; i < strips; i++) {
                for (int j = i + 1; j < strips; j++) {
                    crossed[pair(pieceOfStrip[i], pieceOfStrip[j])] += crossing(i, j);
                }
            }
        }

        private int hooksCounted(int piece, int other) {
            return crossed[pair(piece, other)] / 2;
        }

        private int pair(int piece, int other) {
            boolean there = hasPiece(piece) && hasPiece(other);
            return there ? Math.min(piece, other) * MOST_STRIPS + Math.max(piece, other) : 0;
        }

        int hooksInAll() {
            countCrossings();
            int all = 0;
            for (int p = 0; p < count; p++) {
                for (int q = p + 1; q < count; q++) {
                    all += Math.abs(hooksCounted(p, q));
                }
            }
            return all;
        }

        int hangingGroups() {
            findHung();
            int groups = 0;
            int reached = 0;
            for (int p = 0; p < count; p++) {
                if ((reached >> p & 1) == 0) {
                    groups++;
                    reached |= groupOf(p);
                }
            }
            return groups;
        }

        private int groupOf(int piece) {
            int group = 1 << piece;
            for (int step = 0; step < count; step++) {
                for (int p = 0; p < count; p++) {
                    if ((group >> p & 1) == 1) {
                        group |= hungOn[p];
                    }
                }
            }
            return group;
        }

        int fewestToCut() {
            findHung();
            int all = (1 << count) - 1;
            int best = all;
            for (int taken = 0; taken <= all; taken++) {
                if (Integer.bitCount(taken) < Integer.bitCount(best) && noneHangIn(all & ~taken)) {
                    best = taken;
                }
            }
            return best;
        }

        private boolean noneHangIn(int left) {
            for (int p = 0; p < count; p++) {
                if ((left >> p & 1) == 1 && (hungOn[p] & left) != 0) {
                    return false;
                }
            }
            return true;
        }

        private void findHung() {
            countCrossings();
            for (int p = 0; p < count; p++) {
                hungOn[p] = 0;
                for (int q = 0; q < count; q++) {
                    if (q != p && hooksCounted(p, q) != 0) {
                        hungOn[p] |= 1 << q;
                    }
                }
            }
        }

        /** Whether the first n elements are, in any order, the turns of the pieces. */
        boolean hasJustTurns(Shelf told, int n) {
            if (n != count) {
                return false;
            }
            for (int i = 0; i < n; i++) {
                int turns = told.intAt(i);
                int toldAlike = 0;
                int piecesAlike = 0;
                for (int p = 0; p < n; p++) {
                    toldAlike += told.intAt(p) == turns ? 1 : 0;
                    piecesAlike += turnsOf(p) == turns ? 1 : 0;
                }
                if (toldAlike != piecesAlike) {
                    return false;
                }
            }
            return true;
        }
    }

    /** Reads a table without changing anything, so that it can be told whole or not at all. */
    private static final class TableReader {
        static final int BAND_WORD = 'b';
        static final int RIGHT_WORD = 'r';
        static final int LEFT_WORD = 'l';
        static final int PAINT_WORD = 'p';
        static final int TWIST_WORD = 't';
        private static final int MOST_DIGITS = 4;
        private static final int MOST_NUMBERS = 4;
        /** "left 0;" is the shortest item that another can follow. */
        private static final int MOST_ITEMS = MOST_ELEMENTS / 7 + 1;

        int fault;
        int items;
        private int at;
        private int length;
        private int bandCount;
        private final int[] letters = new int[MOST_ELEMENTS];
        private final int[] strips = new int[MOST_BANDS];
        private final int[] words = new int[MOST_ITEMS];
        private final int[] numbers = new int[MOST_ITEMS * MOST_NUMBERS];

        /** Takes the letters, and the bands that they may speak of from their start on. */
        void begin(Shelf row, Band[] bands, int count) {
            length = Math.min(row.length, MOST_ELEMENTS);
            for (int i = 0; i < length; i++) {
                letters[i] = row.intAt(i);
            }
            bandCount = 0;
            for (int b = 0; b < count && b < bands.length; b++) {
                noteBand(bands[b].strips);
            }
            at = 0;
            fault = NONE;
            items = 0;
        }

        private boolean noteBand(int stripsOfIt) {
            if (bandCount < 0 || bandCount >= MOST_BANDS) {
                return false;
            }
            strips[bandCount] = stripsOfIt;
            bandCount++;
            return true;
        }

        int word(int item) {
            return item >= 0 && item < MOST_ITEMS ? words[item] : NONE;
        }

        int number(int item, int place) {
            boolean there = item >= 0 && item < MOST_ITEMS && place >= 0 && place < MOST_NUMBERS;
            return there ? numbers[item * MOST_NUMBERS + place] : NONE;
        }

        void readItems() {
            for (int k = 0; k < MOST_ITEMS; k++) {
                if (!readItem()) {
                    return;
                }
                items++;
                if (isAtEnd() || !readLetter(';')) {
                    return;
                }
            }
            failAt(at);
        }

        private boolean readItem() {
            if (items < 0 || items >= MOST_ITEMS) {
                return failAt(at);
            }
            int start = at;
            words[items] = letterHere();
            switch (words[items]) {
                case BAND_WORD:
                    return readWord("band") && hasRoom(start) && readNewBand();
                case RIGHT_WORD:
                    return readWord("right") && readBandNumber();
                case LEFT_WORD:
                    return readWord("left") && readBandNumber();
                case PAINT_WORD:
                    return readWord("paint") && readBandNumber()
                            && readNumber(1, 0, stripsOfTold() - 1) && readNumber(2, 0, MOST_COLOUR);
                case TWIST_WORD:
                    return readWord("twist") && readBandNumber() && readNumber(1, 0, MOST_TWISTS);
                default:
                    return failAt(start);
            }
        }

        private boolean readNewBand() {
            return readNumber(0, BAND, LAST) && readNumber(1, 0, MOST_TWISTS)
                    && readNumber(2, 1, MOST_STRIPS) && readNumber(3, 0, MOST_A)
                    && noteBand(number(items, 2));
        }

        private boolean hasRoom(int wordStart) {
            return bandCount < MOST_BANDS || failAt(wordStart);
        }

        private boolean readBandNumber() {
            return readNumber(0, 0, bandCount - 1);
        }

        private int stripsOfTold() {
            int band = number(items, 0);
            return band >= 0 && band < bandCount && band < MOST_BANDS ? strips[band] : 0;
        }

        private boolean readWord(String word) {
            for (int k = 0; k < word.length(); k++) {
                if (!readLetter(word.charAt(k))) {
                    return false;
                }
            }
            return true;
        }

        private boolean readNumber(int place, int least, int greatest) {
            if (!readLetter(' ')) {
                return false;
            }
            int start = at;
            int value = 0;
            for (int k = 0; k < MOST_DIGITS && letterHere() >= '0' && letterHere() <= '9'; k++) {
                value = value * 10 + letterHere() - '0';
                at++;
            }
            if (at == start) {
                return failAt(at);
            }
            if (value < least || value > greatest) {
                return failAt(start);
            }
            int slot = items * MOST_NUMBERS + place;
            if (slot >= 0 && slot < numbers.length) {
                numbers[slot] = value;
            }
            return true;
        }

        private boolean readLetter(int letter) {
            if (isAtEnd() || letterHere() != letter) {
                return failAt(at);
            }
            at++;
            return true;
        }

        private boolean isAtEnd() {
            return at < 0 || at >= length || at >= MOST_ELEMENTS;
        }

        /** The end reads as no letter at all, so that a fault there is the number of elements. */
        private int letterHere() {
            return isAtEnd() ? NONE : letters[at];
        }

        private boolean failAt(int place) {
            fault = place;
            return false;
        }
    }
}
