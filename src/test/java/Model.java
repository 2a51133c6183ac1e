import java.util.ArrayDeque;
import java.util.ArrayList;
import java.util.Arrays;
import java.util.HashMap;
import java.util.HashSet;
import java.util.List;
import java.util.Map;
import java.util.Random;

/** The document taken at its word, by trying all there is: slow, and with nothing shared with the class. */
final class Model {
    static final String[] NAMES = {"polka", "b", "waltz", "abcdefgh", "x", "bb"};

    int wide;
    int high;
    int odds;
    int organ;
    int cup;
    int played;
    int tunes;
    List<String> names = new ArrayList<>();
    List<int[]> hearers = new ArrayList<>(); // CELL, COINS, LIKES, SEEN
    List<Integer> dogs = new ArrayList<>();

    static Model random(Random random) {
        Model m = new Model();
        m.wide = 1 + random.nextInt(5);
        m.high = 1 + random.nextInt(5);
        m.odds = random.nextInt(17);
        int cells = m.wide * m.high;
        m.organ = random.nextInt(cells);
        m.tunes = random.nextInt(7);
        m.names.addAll(List.of(NAMES).subList(0, m.tunes));
        int hearers = random.nextInt(7);
        for (int i = 0; i < hearers; i++) {
            int coins = random.nextInt(3) == 0 ? 3 : random.nextInt(6);
            m.hearers.add(new int[] {random.nextInt(cells), coins, random.nextInt(1 << m.tunes), 0});
        }
        int dogs = random.nextInt(5);
        for (int i = 0; i < dogs; i++) {
            m.dogs.add(random.nextInt(cells));
        }
        return m;
    }

    String text() {
        StringBuilder text = new StringBuilder("square " + wide + " by " + high + ";\nodds " + odds + "; organ " + organ + ";");
        for (int i = 0; i < tunes; i++) {
            text.append("tune ").append(NAMES[i]).append(";");
        }
        for (int[] h : hearers) {
            text.append("hearer at ").append(h[0]);
            if (h[1] != 3) {
                text.append(" coins ").append(h[1]);
            }
            for (int t = tunes - 1, any = 0; t >= 0; t--) {
                if ((h[2] >> t & 1) == 1) {
                    text.append(any == 0 ? " likes " : " ").append(NAMES[t]);
                    any = 1;
                }
            }
            text.append(";");
        }
        for (int d : dogs) {
            text.append("dog at ").append(d).append(";");
        }
        return text.toString();
    }

    Model copy() {
        Model m = new Model();
        m.wide = wide;
        m.high = high;
        m.odds = odds;
        m.organ = organ;
        m.cup = cup;
        m.played = played;
        m.tunes = tunes;
        m.names.addAll(names);
        for (int[] h : hearers) {
            m.hearers.add(h.clone());
        }
        m.dogs.addAll(dogs);
        return m;
    }

    int cells() {
        return wide * high;
    }

    int far(int a, int b) {
        return Math.abs(a % wide - b % wide) + Math.abs(a / wide - b / wide);
    }

    /** Tries the CELLS BESIDE instead of reckoning where the nearer one is. */
    int step(int cell) {
        int columns = Math.abs(cell % wide - organ % wide);
        int rows = Math.abs(cell / wide - organ / wide);
        for (int c = 0; c < cells(); c++) {
            boolean sameRow = c / wide == cell / wide;
            if (far(c, cell) == 1 && far(c, organ) < far(cell, organ) && sameRow == (columns >= rows)) {
                return c;
            }
        }
        throw new IllegalStateException("no step");
    }

    int play(int tune) {
        int came = 0;
        for (int[] h : hearers) {
            if ((h[2] >> tune & 1) == 0) {
                continue;
            }
            if (h[0] != organ) {
                h[0] = step(h[0]);
            } else if (h[1] > 0) {
                h[1]--;
                came++;
            }
        }
        cup = Math.min(9999, cup + came);
        return came;
    }

    int likers(int tune) {
        int set = 0;
        for (int i = 0; i < hearers.size(); i++) {
            set |= (hearers.get(i)[2] >> tune & 1) << i;
        }
        return set;
    }

    int near(int cell) {
        int set = 0;
        for (int i = 0; i < hearers.size(); i++) {
            if (far(hearers.get(i)[0], cell) <= 1) {
                set |= 1 << i;
            }
        }
        return set;
    }

    int seen() {
        int set = 0;
        for (int i = 0; i < hearers.size(); i++) {
            set |= hearers.get(i)[3] << i;
        }
        return set;
    }

    int throwAt(int cell) {
        int hit = near(cell);
        for (int i = 0; i < hearers.size(); i++) {
            hearers.get(i)[3] |= hit >> i & 1;
        }
        return hit;
    }

    int upBy(List<Integer> cells) {
        int set = 0;
        for (int i = 0; i < dogs.size(); i++) {
            for (int c : cells) {
                if (far(c, dogs.get(i)) <= 1) {
                    set |= 1 << i;
                }
            }
        }
        return set;
    }

    int up() {
        List<Integer> where = new ArrayList<>();
        for (int[] h : hearers) {
            where.add(h[0]);
        }
        return upBy(where);
    }

    int pitch(int cell, int tune, int n) {
        Model m = copy();
        m.organ = cell;
        int came = 0;
        for (int i = 0; i < n; i++) {
            came += m.play(tune);
        }
        return came;
    }

    int bestPitch(int tune, int n) {
        int best = 0;
        for (int c = 1; c < cells(); c++) {
            if (pitch(c, tune, n) > pitch(best, tune, n)) {
                best = c;
            }
        }
        return best;
    }

    /** The first shortest row, or null. */
    List<Integer> gather(int set) {
        List<Integer> start = new ArrayList<>();
        List<Integer> likes = new ArrayList<>();
        for (int i = 0; i < hearers.size(); i++) {
            if ((set >> i & 1) == 1) {
                start.add(hearers.get(i)[0]);
                likes.add(hearers.get(i)[2]);
            }
        }
        Map<List<Integer>, List<Integer>> rows = new HashMap<>();
        ArrayDeque<List<Integer>> queue = new ArrayDeque<>();
        rows.put(start, List.of());
        queue.add(start);
        while (!queue.isEmpty()) {
            List<Integer> here = queue.remove();
            if (here.stream().allMatch(c -> c == organ)) {
                return rows.get(here);
            }
            for (int t = 0; t < tunes; t++) {
                List<Integer> next = new ArrayList<>();
                for (int i = 0; i < here.size(); i++) {
                    boolean goes = (likes.get(i) >> t & 1) == 1 && here.get(i) != organ;
                    next.add(goes ? step(here.get(i)) : here.get(i));
                }
                if (!rows.containsKey(next)) {
                    List<Integer> row = new ArrayList<>(rows.get(here));
                    row.add(t);
                    rows.put(next, row);
                    queue.add(next);
                }
            }
        }
        return null;
    }

    /** All sets of k CELLS, in rising order, the first first. */
    List<List<Integer>> sets(int k) {
        List<List<Integer>> all = new ArrayList<>();
        choose(k, 0, new ArrayList<>(), all);
        return all;
    }

    private void choose(int k, int from, List<Integer> so, List<List<Integer>> all) {
        if (so.size() == k) {
            all.add(new ArrayList<>(so));
            return;
        }
        for (int c = from; c < cells(); c++) {
            so.add(c);
            choose(k, c + 1, so, all);
            so.remove(so.size() - 1);
        }
    }

    List<List<Integer>> placings(int set, int k) {
        List<List<Integer>> found = new ArrayList<>();
        for (List<Integer> s : sets(k)) {
            if (upBy(s) == set) {
                found.add(s);
            }
        }
        return found;
    }

    /** Four DOGS need no more than four CELLS. */
    int explain(int set) {
        for (int k = 0; k <= 4; k++) {
            if (!placings(set, k).isEmpty()) {
                return k;
            }
        }
        return -1;
    }

    int hits(List<List<Integer>> placings, int cell) {
        int many = 0;
        for (List<Integer> p : placings) {
            if (p.stream().anyMatch(c -> far(c, cell) <= 1)) {
                many++;
            }
        }
        return many;
    }

    List<Integer> cover(int[] wanted) {
        for (int k = 0; k <= wanted.length; k++) {
            for (List<Integer> s : sets(k)) {
                boolean all = true;
                for (int w : wanted) {
                    all &= s.stream().anyMatch(c -> far(c, w) <= 1);
                }
                if (all) {
                    return s;
                }
            }
        }
        throw new IllegalStateException("no cover");
    }

    /** How many sets fit, and what is in all of them. */
    int[] fits(int hearer, int[] twos) {
        int many = 0;
        int inAll = (1 << tunes) - 1;
        for (int likes = 0; likes < 1 << tunes; likes++) {
            Model m = copy();
            m.hearers.get(hearer)[2] = likes;
            boolean fit = true;
            for (int i = 0; i < twos.length; i += 2) {
                m.play(twos[i]);
                fit &= m.far(m.hearers.get(hearer)[0], organ) == twos[i + 1];
            }
            if (fit) {
                many++;
                inAll &= likes;
            }
        }
        return new int[] {many, inAll};
    }

    /** The KNOWERS of each ROUND, by what would have been told in each world. */
    int[] knowers(int floured, int sight, int rounds) {
        int n = hearers.size();
        String[] told = new String[1 << n];
        Arrays.fill(told, "");
        int[] answer = new int[rounds];
        for (int r = 0; r < rounds; r++) {
            int[] knowers = new int[1 << n];
            for (int i = 0; i < n; i++) {
                HashSet<String> unsure = new HashSet<>();
                for (int w = 1; w < 1 << n; w++) {
                    if ((w >> i & 1) == 0) {
                        unsure.add(view(w, i, sight) + told[w]);
                    }
                }
                for (int w = 1; w < 1 << n; w++) {
                    if (!unsure.contains(view(w, i, sight) + told[w])) {
                        knowers[w] |= 1 << i;
                    }
                }
            }
            for (int w = 1; w < 1 << n; w++) {
                told[w] += "," + knowers[w];
            }
            answer[r] = knowers[floured];
        }
        return answer;
    }

    private String view(int world, int i, int sight) {
        StringBuilder view = new StringBuilder();
        for (int j = 0; j < hearers.size(); j++) {
            boolean sees = j != i && far(hearers.get(i)[0], hearers.get(j)[0]) <= sight;
            view.append(sees ? (world >> j & 1) == 1 ? 'f' : 'c' : '?');
        }
        return view.toString();
    }

    int game(int turn, int turns, int banned, int so) {
        if (turn == turns) {
            return so;
        }
        if (turn % 2 == 1) {
            int worst = game(turn + 1, turns, banned, so);
            for (int t = 0; t < tunes; t++) {
                if ((banned >> t & 1) == 0) {
                    worst = Math.min(worst, game(turn + 1, turns, banned | 1 << t, so));
                }
            }
            return worst;
        }
        int best = game(turn + 1, turns, banned, so);
        for (int t = 0; t < tunes; t++) {
            if ((banned >> t & 1) == 0) {
                best = Math.max(best, behind(t, turn, turns, banned, so));
            }
        }
        return best;
    }

    private int behind(int tune, int turn, int turns, int banned, int so) {
        Model m = copy();
        int came = m.play(tune);
        return m.game(turn + 1, turns, banned, so + came);
    }

    int move(int turns) {
        int best = game(0, turns, 0, 0);
        for (int t = 0; t < tunes; t++) {
            if (behind(t, 0, turns, 0, 0) == best) {
                return t;
            }
        }
        return -1;
    }

    /** Of 16 to the power of the HEARERS. */
    long crowd(int k) {
        long ways = 0;
        for (int set = 0; set < 1 << hearers.size(); set++) {
            if (Integer.bitCount(set) >= k) {
                long w = 1;
                for (int i = 0; i < hearers.size(); i++) {
                    w *= (set >> i & 1) == 1 ? odds : 16 - odds;
                }
                ways += w;
            }
        }
        return ways;
    }
}
