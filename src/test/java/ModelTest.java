import java.util.ArrayList;
import java.util.Arrays;
import java.util.List;
import java.util.TreeSet;

/** Promises 16 to 27, 29, 30, 32, 33 and 43 of every kind, beside a second program written from the document's terms. */
public final class ModelTest {
    private static final Checks CHECKS = new Checks("ModelTest");

    public static void main(String[] args) {
        for (int kind = 0; kind < 7; kind++) {
            for (int strips = 1; strips <= 12; strips++) {
                for (int twists = 0; twists < 6; twists++) {
                    for (int a = 0; a < 10; a += kind == 1 || kind == 3 ? 1 : 9) {
                        compare(new Model(kind, twists, strips, 0, a));
                        compare(new Model(kind, twists, strips, 1, a));
                    }
                }
            }
        }
        CHECKS.finish();
    }

    /** A band by the words of the document, with no regard to speed. */
    private static final class Model {
        final int kind;
        final int twists;
        final int strips;
        final int hand;
        final int a;
        final List<TreeSet<Integer>> pieces = new ArrayList<>();

        Model(int kind, int twists, int strips, int hand, int a) {
            this.kind = kind;
            this.twists = twists;
            this.strips = strips;
            this.hand = hand;
            this.a = a;
            for (int i = 0; i < strips; i++) {
                TreeSet<Integer> round = new TreeSet<>();
                for (int at = i; round.add(at);) {
                    at = on(at);
                }
                if (round.first() == i) {
                    pieces.add(round);
                }
            }
        }

        Model with(int otherTwists, int otherStrips) {
            return new Model(kind, otherTwists, otherStrips, hand, a);
        }

        int on(int i) {
            return on(kind, i);
        }

        private int on(int as, int i) {
            switch (as) {
                case 0:
                    return twists % 2 == 0 ? i : strips - 1 - i;
                case 1:
                    return (on(0, i) + a) % strips;
                case 2:
                    int to = on(0, i);
                    int pair = to % 2 == 0 ? to + 1 : to - 1;
                    return pair < strips ? pair : to;
                case 3:
                    return on(1, on(1, i));
                case 5:
                    return strips - 1 - on(2, i);
                case 6:
                    return i == 0 ? strips - 1 : i == strips - 1 ? 0 : i;
                default:
                    return i;
            }
        }

        int turns(int piece) {
            int size = pieces.get(piece).size();
            return twists * size + 2 * (size - 1);
        }

        int crossings(int i, int j) {
            boolean keeps = (i < j) == (on(i) < on(j));
            boolean more = twists % 2 == 1 && keeps || twists % 2 == 0 && !keeps;
            return (hand == 0 ? -twists : twists) + (more ? 1 : 0);
        }

        int hooks(int piece, int other) {
            int all = 0;
            for (int i : pieces.get(piece)) {
                for (int j : pieces.get(other)) {
                    all += crossings(i, j);
                }
            }
            if (all % 2 != 0) {
                throw new IllegalStateException("half a hook");
            }
            return all / 2;
        }

        int allHooks() {
            int all = 0;
            for (int p = 0; p < pieces.size(); p++) {
                for (int q = 0; q < p; q++) {
                    all += Math.abs(hooks(p, q));
                }
            }
            return all;
        }

        boolean hangs(int left) {
            for (int p = 0; p < pieces.size(); p++) {
                for (int q = 0; q < p; q++) {
                    if ((left >> p & 1) == 1 && (left >> q & 1) == 1 && hooks(p, q) != 0) {
                        return true;
                    }
                }
            }
            return false;
        }

        int unhook() {
            int all = (1 << pieces.size()) - 1;
            for (int many = 0; many <= pieces.size(); many++) {
                for (int taken = 0; taken <= all; taken++) {
                    if (Integer.bitCount(taken) == many && !hangs(all & ~taken)) {
                        return taken;
                    }
                }
            }
            return -1;
        }

        int groups() {
            int[] groupOf = new int[pieces.size()];
            for (int p = 0; p < groupOf.length; p++) {
                groupOf[p] = p;
            }
            for (int p = 0; p < groupOf.length; p++) {
                for (int q = 0; q < p; q++) {
                    if (hooks(p, q) != 0) {
                        int gone = groupOf[p];
                        int stays = groupOf[q];
                        for (int r = 0; r < groupOf.length; r++) {
                            groupOf[r] = groupOf[r] == gone ? stays : groupOf[r];
                        }
                    }
                }
            }
            return (int) Arrays.stream(groupOf).distinct().count();
        }

        int[] sortedTurns() {
            int[] turns = new int[pieces.size()];
            for (int p = 0; p < turns.length; p++) {
                turns[p] = turns(p);
            }
            Arrays.sort(turns);
            return turns;
        }

        long fits(int[] told) {
            long bits = 0;
            for (int t = 0; t <= 40; t++) {
                if (Arrays.equals(with(t, strips).sortedTurns(), told)) {
                    bits |= 1L << t;
                }
            }
            return bits;
        }

        int most() {
            int best = 1;
            for (int n = 2; n <= 12; n++) {
                if (with(twists, n).allHooks() > with(twists, best).allHooks()) {
                    best = n;
                }
            }
            return best;
        }

        int leastTwist(int k) {
            for (int more = 0; more <= 40; more++) {
                if (with(twists + more, strips).pieces.size() == k) {
                    return more;
                }
            }
            return -1;
        }
    }

    private static void compare(Model m) {
        DownTheMiddle x = Checks.withBand(m.kind, m.twists, m.strips, m.hand, m.a);
        String of = " of " + m.kind + " " + m.twists + " " + m.strips + " " + m.hand + " " + m.a;
        compareStrips(x, m, of);
        comparePieces(x, m, of);
        CHECKS.due("status(1)" + of, x.status(1), m.pieces.size());
        CHECKS.due("allHooks" + of, x.allHooks(0), m.allHooks());
        CHECKS.due("groups" + of, x.groups(0), m.groups());
        CHECKS.due("unhook" + of, x.unhook(0), m.unhook());
        CHECKS.due("most" + of, x.most(0), m.most());
        for (int k = 1; k <= 12; k++) {
            CHECKS.due("leastTwist to " + k + of, x.leastTwist(0, k), m.leastTwist(k));
        }
        compareTold(x, m, of);
        compareColours(m, of);
    }

    private static void compareStrips(DownTheMiddle x, Model m, String of) {
        for (int i = 0; i < m.strips; i++) {
            CHECKS.due("on " + i + of, x.on(0, i), m.on(i));
            CHECKS.holds(i + " is in its piece" + of, m.pieces.get(x.pieceAt(0, i)).contains(i));
            for (int j = 0; j < m.strips; j++) {
                CHECKS.due("crossings " + i + " " + j + of, x.crossings(0, i, j),
                        i == j ? -1000006 : m.crossings(i, j));
            }
        }
    }

    private static void comparePieces(DownTheMiddle x, Model m, String of) {
        int worn = 0;
        CHECKS.due("pieces" + of, x.pieces(0), m.pieces.size());
        for (int p = 0; p < m.pieces.size(); p++) {
            int bits = 0;
            for (int i : m.pieces.get(p)) {
                bits |= 1 << i;
            }
            boolean odd = m.turns(p) % 2 == 1;
            worn |= odd ? 1 << p : 0;
            CHECKS.due("SIZE of " + p + of, x.pieceOf(0, p, 0), m.pieces.get(p).size());
            CHECKS.due("STRIPS of " + p + of, x.pieceOf(0, p, 1), bits);
            CHECKS.due("TURNS of " + p + of, x.pieceOf(0, p, 2), m.turns(p));
            CHECKS.due("EDGES of " + p + of, x.pieceOf(0, p, 3), odd ? 1 : 2);
            for (int q = 0; q < m.pieces.size(); q++) {
                CHECKS.due("hooks " + p + " " + q + of, x.hooks(0, p, q), p == q ? -1000006 : m.hooks(p, q));
            }
        }
        CHECKS.due("no such piece" + of, x.pieceOf(0, m.pieces.size(), 0), -1);
        CHECKS.due("worn" + of, x.worn(0), worn);
    }

    private static void compareTold(DownTheMiddle x, Model m, String of) {
        int[] turns = m.sortedTurns();
        int many = turns.length;
        x.row(0, 2, many);
        x.row(1, 0, many);
        for (int p = 0; p < many; p++) {
            x.set(0, p, turns[many - 1 - p]);
            x.set(1, p, m.pieces.get(p).size());
        }
        CHECKS.due("fits" + of, x.fits(0, 0, many), m.fits(turns));
        CHECKS.due("judge" + of, x.judge(0, 1, many), -1);
        x.set(1, many - 1, 13);
        CHECKS.due("judge of a wrong last" + of, x.judge(0, 1, many), many - 1);
        CHECKS.due("judge of too few" + of, x.judge(0, 1, many - 1), many - 1);
    }

    private static void compareColours(Model m, String of) {
        DownTheMiddle x = Checks.withBand(m.kind, m.twists, m.strips, m.hand, m.a);
        int[] colours = new int[m.strips];
        for (int i = 0; i < m.strips; i++) {
            colours[i] = (i * i + m.twists + i / 3 * m.a) % 3 * 3 + 1;
            x.paint(0, i, colours[i]);
        }
        int painted = 0;
        int repaint = 0;
        for (int p = 0; p < m.pieces.size(); p++) {
            int[] many = new int[8];
            for (int i : m.pieces.get(p)) {
                many[colours[i]]++;
            }
            int left = m.pieces.get(p).size() - Arrays.stream(many).max().getAsInt();
            repaint += left;
            painted |= left == 0 ? 1 << p : 0;
        }
        CHECKS.due("painted" + of, x.painted(0), painted);
        CHECKS.due("repaint" + of, x.repaint(0), repaint);
    }
}
