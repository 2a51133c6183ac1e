import java.math.BigInteger;
import java.util.List;
import java.util.Random;

/** Many squares by chance (the same in each run): the class against the Model. */
public final class ModelTest {
    private static final Check C = new Check("ModelTest");
    private static final Random RANDOM = new Random(20261118);

    public static void main(String[] args) {
        for (int i = 0; i < 400; i++) {
            Model m = Model.random(RANDOM);
            if (i % 2 == 0) {
                whatComes(m);
                whereTheyAre(m);
            }
            likingAndKnowing(m);
            gamesAndOdds(m, i);
            deeds(m);
            days(m);
        }
        C.end();
    }

    private static UnseenRing make(Model m) {
        return Check.of(m.text());
    }

    private static void same(Model m, UnseenRing x) {
        int[] told = {m.wide, m.high, m.tunes, m.hearers.size(), m.dogs.size(), m.odds, m.organ, m.cup, m.played, m.seen(), m.up()};
        for (int i = 0; i < told.length; i++) {
            C.fine(x, "told " + i, x.told(i), told[i]);
        }
        for (int i = 0; i < m.hearers.size(); i++) {
            int[] h = m.hearers.get(i);
            int[] of = {h[0], h[2], h[1], m.far(h[0], m.organ), h[3]};
            for (int what = 0; what < 5; what++) {
                C.fine(x, "hearer " + i + " " + what, x.hearer(i, what), of[what]);
            }
        }
        for (int i = 0; i < m.dogs.size(); i++) {
            C.fine(x, "dog", x.dog(i, 0), m.dogs.get(i));
            C.fine(x, "dog up", x.dog(i, 1), m.up() >> i & 1);
        }
        for (int i = 0; i < m.tunes; i++) {
            C.fine(x, "likers", x.likers(i), m.likers(i));
        }
        for (int c = 0; c < m.cells(); c++) {
            C.fine(x, "cell far", x.cell(c, 1), m.far(c, m.organ));
            C.fine(x, "cell dogs", x.cell(c, 2), m.upBy(List.of(c)));
        }
    }

    private static void whatComes(Model m) {
        UnseenRing x = make(m);
        String of = " of " + m.text();
        for (int t = 0; t < m.tunes; t++) {
            int n = RANDOM.nextInt(21);
            C.fine(x, "takings" + of, x.takings(t, n), m.pitch(m.organ, t, n));
            for (int c = 0; c < m.cells(); c++) {
                C.fine(x, "pitch" + of, x.pitch(c, t, n), m.pitch(c, t, n));
            }
            C.fine(x, "bestPitch" + of, x.bestPitch(t, n), m.bestPitch(t, n));
        }
        UnseenRing y = make(m);
        for (int set = 1; set < 1 << m.hearers.size(); set++) {
            if (Integer.bitCount(set) > 3) {
                C.refused(y, "gather" + of, y.gather(set), 1);
                continue;
            }
            List<Integer> row = m.gather(set);
            if (row == null) {
                C.refused(y, "gather " + set + of, y.gather(set), 6);
                C.refused(y, "gatherAt" + of, y.gatherAt(set, 0), 6);
                continue;
            }
            C.fine(y, "gather " + set + of, y.gather(set), row.size());
            for (int k = 0; k < row.size(); k++) {
                C.fine(y, "gatherAt " + set + " " + k + of, y.gatherAt(set, k), row.get(k));
            }
            C.refused(y, "gatherAt" + of, y.gatherAt(set, row.size()), 6);
        }
        same(m, x);
        same(m, y);
    }

    private static void whereTheyAre(Model m) {
        UnseenRing x = make(m);
        String of = " of " + m.text();
        for (int set = 0; set < 1 << m.dogs.size(); set++) {
            C.due("explain " + set + of, x.explain(set), m.explain(set));
            C.due("status", x.status(), m.explain(set) < 0 ? 6 : 0);
            int k = RANDOM.nextInt(5);
            List<List<Integer>> placings = m.placings(set, k);
            C.fine(x, "placings " + set + " " + k + of, x.placings(set, k), placings.size());
            int cell = RANDOM.nextInt(m.cells());
            if (placings.isEmpty()) {
                C.refused(x, "oddsThat", x.oddsThat(set, k, cell), 6);
                C.refused(x, "aim", x.aim(set, k), 6);
                continue;
            }
            long in = placings.stream().filter(p -> p.contains(cell)).count();
            fraction(x, "oddsThat" + of, x.oddsThat(set, k, cell), in, placings.size());
            int best = 0;
            for (int c = 1; c < m.cells(); c++) {
                if (m.hits(placings, c) > m.hits(placings, best)) {
                    best = c;
                }
            }
            C.fine(x, "aim " + set + " " + k + of, x.aim(set, k), best);
        }
        cover(m, x, of);
    }

    private static void cover(Model m, UnseenRing x, String of) {
        int n = RANDOM.nextInt(9);
        int sort = RANDOM.nextInt(4);
        int[] wanted = new int[n];
        x.tray(2, sort, n);
        for (int i = 0; i < n; i++) {
            wanted[i] = RANDOM.nextInt(m.cells());
            x.write(2, i, wanted[i]);
        }
        List<Integer> row = m.cover(wanted);
        C.fine(x, "cover" + of, x.cover(2, n), row.size());
        for (int k = 0; k < row.size(); k++) {
            C.fine(x, "coverAt " + k + of, x.coverAt(2, n, k), row.get(k));
        }
        C.refused(x, "coverAt" + of, x.coverAt(2, n, row.size()), 6);
    }

    private static void fraction(UnseenRing x, String what, boolean got, long top, long bottom) {
        long common = BigInteger.valueOf(top).gcd(BigInteger.valueOf(bottom)).longValue();
        C.fraction(x, what, got, top / common, bottom / common);
    }

    private static void likingAndKnowing(Model m) {
        if (m.hearers.isEmpty()) {
            return;
        }
        UnseenRing x = make(m);
        String of = " of " + m.text();
        int hearer = RANDOM.nextInt(m.hearers.size());
        int n = m.tunes == 0 ? 0 : RANDOM.nextInt(RANDOM.nextBoolean() ? 5 : 21);
        int[] twos = twos(m, hearer, n);
        x.tray(1, 0, 2 * n);
        for (int i = 0; i < 2 * n; i++) {
            x.write(1, i, twos[i]);
        }
        int[] fits = m.fits(hearer, twos);
        C.fine(x, "fits" + of, x.fits(hearer, 1, n), fits[0]);
        C.due("sure" + of, x.sure(hearer, 1, n), fits[0] == 0 ? -1 : fits[1]);
        C.due("sure status" + of, x.status(), fits[0] == 0 ? 6 : 0);
        for (int i = 0; i < 8; i++) {
            int floured = 1 + RANDOM.nextInt((1 << m.hearers.size()) - 1);
            int sight = RANDOM.nextInt(9);
            int[] knowers = m.knowers(floured, sight, 70);
            int first = -1;
            for (int r = 69; r >= 0; r--) {
                first = knowers[r] != 0 ? r + 1 : first;
            }
            C.due("rounds " + floured + " " + sight + of, x.rounds(floured, sight), first);
            C.due("rounds status", x.status(), first < 0 ? 6 : 0);
            for (int r = 1; r <= 8; r++) {
                C.fine(x, "knowers " + floured + " " + sight + " " + r + of, x.knowers(floured, sight, r), knowers[r - 1]);
            }
        }
    }

    /** What a HEARER who LIKES some TUNES would do, with a wrong number now and then. */
    private static int[] twos(Model m, int hearer, int n) {
        Model w = m.copy();
        w.hearers.get(hearer)[2] = RANDOM.nextInt(1 << m.tunes);
        int[] twos = new int[2 * n];
        for (int i = 0; i < n; i++) {
            twos[2 * i] = RANDOM.nextInt(m.tunes);
            w.play(twos[2 * i]);
            twos[2 * i + 1] = w.far(w.hearers.get(hearer)[0], w.organ);
            if (RANDOM.nextInt(40) == 0) {
                twos[2 * i + 1] = RANDOM.nextInt(9);
            }
        }
        return twos;
    }

    private static void gamesAndOdds(Model m, int i) {
        UnseenRing x = make(m);
        String of = " of " + m.text();
        int most = i % 8 == 0 ? 4 : 3;
        for (int n = 0; n <= most; n++) {
            C.fine(x, "game " + n + of, x.game(n), m.game(0, n, 0, 0));
            if (n > 0) {
                int move = m.move(n);
                C.due("moveOf " + n + of, x.moveOf(n), move);
                C.due("moveOf status", x.status(), move < 0 ? 6 : 0);
            }
        }
        for (int k = 0; k <= 6; k++) {
            fraction(x, "crowd " + k + of, x.crowd(k), m.crowd(k), 1L << 4 * m.hearers.size());
        }
        int all = m.hearers.stream().mapToInt(h -> h[1]).sum();
        for (int h = 0; h < m.hearers.size(); h++) {
            if (all == 0) {
                C.refused(x, "share", x.share(h), 6);
            } else {
                fraction(x, "share" + of, x.share(h), m.hearers.get(h)[1], all);
            }
        }
    }

    private static void deeds(Model first) {
        UnseenRing x = make(first);
        Model m = first.copy();
        for (int i = 0; i < 60; i++) {
            deed(m, x);
        }
        same(m, x);
    }

    private static void deed(Model m, UnseenRing x) {
        int cell = RANDOM.nextInt(m.cells());
        int hearer = m.hearers.isEmpty() ? -1 : RANDOM.nextInt(m.hearers.size());
        int tune = m.tunes == 0 ? -1 : RANDOM.nextInt(m.tunes);
        switch (RANDOM.nextInt(8)) {
            case 0:
                C.due("grind", x.grind(cell), m.organ == cell ? -1 : m.far(m.organ, cell));
                m.organ = cell;
                break;
            case 1:
                int hit = m.throwAt(cell);
                C.due("throwAt", x.throwAt(cell), hit == 0 ? -1 : hit);
                break;
            case 2:
                if (hearer >= 0) {
                    int[] h = m.hearers.get(hearer);
                    C.due("send", x.send(hearer, cell), h[0] == cell ? -1 : m.far(h[0], cell));
                    h[0] = cell;
                }
                break;
            case 3:
                if (hearer >= 0 && tune >= 0) {
                    boolean is = RANDOM.nextBoolean();
                    int[] h = m.hearers.get(hearer);
                    C.due("teach", x.teach(hearer, tune, is), is != ((h[2] >> tune & 1) == 1));
                    h[2] = is ? h[2] | 1 << tune : h[2] & ~(1 << tune);
                }
                break;
            case 4:
                if (RANDOM.nextInt(5) == 0) {
                    C.due("come", x.come(cell), m.hearers.size() < 6 ? m.hearers.size() : -1);
                    if (m.hearers.size() < 6) {
                        m.hearers.add(new int[] {cell, 3, 0, 0});
                    }
                }
                break;
            default:
                if (tune >= 0) {
                    boolean can = m.likers(tune) != 0;
                    C.due("play", x.play(tune), can ? m.play(tune) : -1);
                    m.played += can ? 1 : 0;
                }
                break;
        }
    }

    private static void days(Model first) {
        UnseenRing x = make(first);
        Model m = first.copy();
        ModelDays days = new ModelDays(RANDOM, m);
        String text = days.text();
        if (text.length() > 300) {
            C.refused(x, "days above 300", Check.days(x, text), 1);
            return;
        }
        C.fine(x, "days " + text, Check.days(x, text), days.steps());
        int from = RANDOM.nextInt(9980);
        int many = 1 + RANDOM.nextInt(20);
        long cups = 0;
        for (int i = 0; i < many; i++) {
            Model w = m.copy();
            days.live(w, from + i);
            cups += w.cup;
        }
        fraction(x, "mean " + text, x.mean(from, many), cups, many);
        for (int i = 0; i < 3; i++) {
            int seed = RANDOM.nextInt(10000);
            days.live(m, seed);
            C.fine(x, "live " + text, x.live(seed), days.done);
            int[] lived = {days.missed, days.plays, days.coins, days.hits, days.left};
            for (int what = 0; what < 5; what++) {
                C.fine(x, "lived " + what + " " + text, x.lived(what), lived[what]);
            }
        }
        same(m, x);
    }
}
