import java.math.BigInteger;
import java.util.ArrayDeque;
import java.util.ArrayList;
import java.util.Arrays;
import java.util.Deque;
import java.util.HashMap;
import java.util.List;
import java.util.Map;

/**
 * The document's whole face once more, for long runs: TRAYS, tape, FAULTS, FRACTION, MARKS and each STATUS around a
 * Model. It goes by the document's words alone and tries all there is; nothing of it is shared with the class.
 */
final class Whole {
    private final long[][] trays = new long[4][];
    private final int[] sorts = new int[4];
    private final Deque<Model> marks = new ArrayDeque<>();
    private final Deque<ModelDays> markedDays = new ArrayDeque<>();
    private String tape = "";
    private Model m = ModelText.square("");
    /** null: there are none. */
    private ModelDays days = null;
    private int[] lived = null;
    private int fault = -1;
    private int faultPlace = -1;
    private int status = 0;
    private long top = 0;
    private long bottom = 1;

    // ---- what the runs ask of it, to choose what they give

    Model now() {
        return m.copy();
    }

    int onTape() {
        return tape.length();
    }

    int inTray(int tray) {
        return trays[tray] == null ? 0 : trays[tray].length;
    }

    // ---- STATUS

    private int no(int why) {
        status = why;
        return -1;
    }

    private boolean not(int why) {
        status = why;
        return false;
    }

    private int yes(int answer) {
        status = 0;
        return answer;
    }

    private boolean done() {
        status = 0;
        return true;
    }

    private static boolean out(long number, long least, long most) {
        return number < least || number > most;
    }

    private boolean noTray(int tray) {
        return out(tray, 0, 3);
    }

    private boolean noCell(int cell) {
        return out(cell, 0, m.cells() - 1);
    }

    private boolean noTune(int tune) {
        return out(tune, 0, m.tunes - 1);
    }

    private boolean noHearer(int hearer) {
        return out(hearer, 0, m.hearers.size() - 1);
    }

    private boolean noDogs(int set) {
        return out(set, 0, (1 << m.dogs.size()) - 1);
    }

    private boolean noHearers(int set) {
        return out(set, 1, (1 << m.hearers.size()) - 1);
    }

    private boolean fraction(long above, long below) {
        BigInteger common = BigInteger.valueOf(above).gcd(BigInteger.valueOf(below));
        top = above / common.longValue();
        bottom = below / common.longValue();
        return done();
    }

    int status() {
        return status;
    }

    long top() {
        return top;
    }

    long bottom() {
        return bottom;
    }

    // ---- TRAYS

    boolean tray(int tray, int sort, int many) {
        if (noTray(tray) || out(sort, 0, 3) || out(many, 0, 60)) {
            return not(1);
        }
        trays[tray] = new long[many];
        sorts[tray] = sort;
        return done();
    }

    /** The STATUS of a TRAY that must have so many numbers. */
    private int lacks(int tray, int many) {
        if (noTray(tray)) {
            return 1;
        }
        if (trays[tray] == null) {
            return 2;
        }
        return trays[tray].length < many ? 3 : 0;
    }

    private int lacksPlace(int tray, int place) {
        int lacks = lacks(tray, 0);
        return lacks == 0 && out(place, 0, trays[tray].length - 1) ? 3 : lacks;
    }

    boolean write(int tray, int place, long v) {
        int lacks = lacksPlace(tray, place);
        if (lacks != 0) {
            return not(lacks);
        }
        BigInteger size = BigInteger.ONE.shiftLeft(8 << sorts[tray]);
        BigInteger cut = BigInteger.valueOf(v).mod(size);
        boolean minus = cut.testBit((8 << sorts[tray]) - 1);
        trays[tray][place] = (minus ? cut.subtract(size) : cut).longValueExact();
        return done();
    }

    long read(int tray, int place) {
        int lacks = lacksPlace(tray, place);
        if (lacks != 0) {
            return no(lacks);
        }
        status = 0;
        return trays[tray][place];
    }

    boolean pour(int from, int place, int to, int at, int many) {
        if (noTray(from) || noTray(to) || place < 0 || at < 0 || many < 0) {
            return not(1);
        }
        if (trays[from] == null || trays[to] == null) {
            return not(2);
        }
        if (sorts[from] != sorts[to]) {
            return not(8);
        }
        if ((long) place + many > trays[from].length || (long) at + many > trays[to].length) {
            return not(3);
        }
        long[] were = trays[from].clone();
        for (int i = 0; i < many; i++) {
            trays[to][at + i] = were[place + i];
        }
        return done();
    }

    // ---- texts

    int feed(int a, int b, int c, int d, int e) {
        if (tape.length() + 20 > 900) {
            return -1;
        }
        StringBuilder more = new StringBuilder(tape);
        for (int four : new int[] {a, b, c, d, e}) {
            more.append((char) (four >>> 24)).append((char) (four >>> 16 & 255));
            more.append((char) (four >>> 8 & 255)).append((char) (four & 255));
        }
        tape = more.toString();
        return tape.length();
    }

    int square(int n) {
        if (out(n, 0, tape.length())) {
            return no(1);
        }
        String text = tape.substring(0, n);
        tape = "";
        try {
            m = ModelText.square(text);
        } catch (ModelText.Fault f) {
            return faulty(f);
        }
        days = null;
        return faultless(m.hearers.size());
    }

    int days(int n) {
        if (out(n, 0, Math.min(300, tape.length()))) {
            return no(1);
        }
        String text = tape.substring(0, n);
        tape = "";
        try {
            days = ModelText.days(text, m);
        } catch (ModelText.Fault f) {
            return faulty(f);
        }
        return faultless(days.steps());
    }

    private int faulty(ModelText.Fault f) {
        fault = f.kind;
        faultPlace = f.place;
        return no(9);
    }

    private int faultless(int answer) {
        fault = 0;
        faultPlace = -1;
        return yes(answer);
    }

    int fault(int what) {
        return what == 0 ? fault : what == 1 ? faultPlace : -1;
    }

    int told(int what) {
        int[] all = {m.wide, m.high, m.tunes, m.hearers.size(), m.dogs.size(), m.odds, m.organ, m.cup, m.played,
            m.seen(), m.up()};
        return out(what, 0, 10) ? no(1) : yes(all[what]);
    }

    int hearer(int hearer, int what) {
        if (noHearer(hearer) || out(what, 0, 4)) {
            return no(1);
        }
        int[] h = m.hearers.get(hearer);
        return yes(new int[] {h[0], h[2], h[1], m.far(h[0], m.organ), h[3]}[what]);
    }

    int dog(int dog, int what) {
        if (out(dog, 0, m.dogs.size() - 1) || out(what, 0, 1)) {
            return no(1);
        }
        return yes(what == 0 ? m.dogs.get(dog) : m.up() >> dog & 1);
    }

    int cell(int cell, int what) {
        if (noCell(cell) || out(what, 0, 2)) {
            return no(1);
        }
        int in = 0;
        for (int i = 0; i < m.hearers.size(); i++) {
            in += m.hearers.get(i)[0] == cell ? 1 << i : 0;
        }
        return yes(new int[] {in, m.far(cell, m.organ), m.upBy(List.of(cell))}[what]);
    }

    int likers(int tune) {
        return noTune(tune) ? no(1) : yes(m.likers(tune));
    }

    // ---- what is done

    int play(int tune) {
        if (noTune(tune)) {
            return no(1);
        }
        if (m.likers(tune) == 0) {
            return no(7);
        }
        m.played++;
        return yes(m.play(tune));
    }

    int grind(int cell) {
        if (noCell(cell)) {
            return no(1);
        }
        int from = m.organ;
        m.organ = cell;
        return from == cell ? no(7) : yes(m.far(from, cell));
    }

    int throwAt(int cell) {
        if (noCell(cell)) {
            return no(1);
        }
        int hit = m.throwAt(cell);
        return hit == 0 ? no(7) : yes(hit);
    }

    int brush() {
        int many = Integer.bitCount(m.seen());
        m.hearers.forEach(h -> h[3] = 0);
        return many == 0 ? no(7) : yes(many);
    }

    int send(int hearer, int cell) {
        if (noHearer(hearer) || noCell(cell)) {
            return no(1);
        }
        int[] h = m.hearers.get(hearer);
        int from = h[0];
        h[0] = cell;
        return from == cell ? no(7) : yes(m.far(from, cell));
    }

    int give(int hearer, int coins) {
        if (noHearer(hearer) || out(coins, 0, 99)) {
            return no(1);
        }
        int[] h = m.hearers.get(hearer);
        int had = h[1];
        h[1] = coins;
        return yes(had);
    }

    boolean teach(int hearer, int tune, boolean is) {
        if (noHearer(hearer) || noTune(tune)) {
            return not(1);
        }
        int[] h = m.hearers.get(hearer);
        int likes = is ? h[2] | 1 << tune : h[2] & ~(1 << tune);
        if (likes == h[2]) {
            return not(7);
        }
        h[2] = likes;
        return done();
    }

    int come(int cell) {
        if (noCell(cell)) {
            return no(1);
        }
        if (m.hearers.size() == 6) {
            return no(4);
        }
        m.hearers.add(new int[] {cell, 3, 0, 0});
        return yes(m.hearers.size() - 1);
    }

    int empty() {
        int had = m.cup;
        m.cup = 0;
        return had == 0 ? no(7) : yes(had);
    }

    boolean rule(int odds) {
        if (out(odds, 0, 16)) {
            return not(1);
        }
        m.odds = odds;
        return done();
    }

    // ---- what comes

    int takings(int tune, int n) {
        return noTune(tune) || out(n, 0, 20) ? no(1) : yes(m.pitch(m.organ, tune, n));
    }

    int pitch(int cell, int tune, int n) {
        return noCell(cell) || noTune(tune) || out(n, 0, 20) ? no(1) : yes(m.pitch(cell, tune, n));
    }

    int bestPitch(int tune, int n) {
        return noTune(tune) || out(n, 0, 20) ? no(1) : yes(m.bestPitch(tune, n));
    }

    int soon(int hearer) {
        if (noHearer(hearer)) {
            return no(1);
        }
        List<Integer> row = m.gather(1 << hearer);
        return row == null ? no(6) : yes(row.size());
    }

    int gather(int hearers) {
        if (noHearers(hearers) || Integer.bitCount(hearers) > 3) {
            return no(1);
        }
        List<Integer> row = m.gather(hearers);
        return row == null ? no(6) : yes(row.size());
    }

    int gatherAt(int hearers, int k) {
        if (noHearers(hearers) || Integer.bitCount(hearers) > 3 || k < 0) {
            return no(1);
        }
        List<Integer> row = m.gather(hearers);
        return row == null || k >= row.size() ? no(6) : yes(row.get(k));
    }

    // ---- where they are

    /** All sets of k CELLS, a bit a CELL, those with the lower CELLS first. */
    private void sets(int k, int from, int so, List<Integer> into) {
        if (k == 0) {
            into.add(so);
            return;
        }
        for (int c = from; c <= m.cells() - k; c++) {
            sets(k - 1, c + 1, so | 1 << c, into);
        }
    }

    /** What a THROW at each CELL hits, and what wakes a DOG in it: the CELL and those BESIDE. */
    private int[] nears() {
        int[] nears = new int[m.cells()];
        for (int a = 0; a < nears.length; a++) {
            for (int b = 0; b < nears.length; b++) {
                nears[a] |= m.far(a, b) <= 1 ? 1 << b : 0;
            }
        }
        return nears;
    }

    private List<Integer> placed(int dogs, int k) {
        int[] nears = nears();
        List<Integer> all = new ArrayList<>();
        sets(k, 0, 0, all);
        List<Integer> found = new ArrayList<>();
        for (int set : all) {
            int up = 0;
            for (int d = 0; d < m.dogs.size(); d++) {
                up |= (nears[m.dogs.get(d)] & set) != 0 ? 1 << d : 0;
            }
            if (up == dogs) {
                found.add(set);
            }
        }
        return found;
    }

    int explain(int dogs) {
        if (noDogs(dogs)) {
            return no(1);
        }
        // of more CELLS than DOGS one could be left out
        for (int k = 0; k <= m.dogs.size(); k++) {
            if (!placed(dogs, k).isEmpty()) {
                return yes(k);
            }
        }
        return no(6);
    }

    int placings(int dogs, int k) {
        return noDogs(dogs) || out(k, 0, 4) ? no(1) : yes(placed(dogs, k).size());
    }

    boolean oddsThat(int dogs, int k, int cell) {
        if (noDogs(dogs) || out(k, 0, 4) || noCell(cell)) {
            return not(1);
        }
        List<Integer> all = placed(dogs, k);
        long in = all.stream().filter(set -> (set >> cell & 1) == 1).count();
        return all.isEmpty() ? not(6) : fraction(in, all.size());
    }

    int aim(int dogs, int k) {
        if (noDogs(dogs) || out(k, 0, 4)) {
            return no(1);
        }
        List<Integer> all = placed(dogs, k);
        int[] nears = nears();
        long most = -1;
        int best = 0;
        for (int c = 0; c < nears.length; c++) {
            int near = nears[c];
            long hit = all.stream().filter(set -> (set & near) != 0).count();
            if (hit > most) {
                most = hit;
                best = c;
            }
        }
        return all.isEmpty() ? no(6) : yes(best);
    }

    private int coverLacks(int tray, int n) {
        int lacks = out(n, 0, 8) ? 1 : lacks(tray, n);
        for (int i = 0; lacks == 0 && i < n; i++) {
            lacks = out(trays[tray][i], 0, m.cells() - 1) ? 5 : 0;
        }
        return lacks;
    }

    private List<Integer> covering(int tray, int n) {
        int[] nears = nears();
        int wanted = 0;
        for (int i = 0; i < n; i++) {
            wanted |= 1 << trays[tray][i];
        }
        for (int k = 0; k <= n; k++) {
            int set = firstCover(k, 0, 0, nears, wanted);
            if (set >= 0) {
                List<Integer> row = new ArrayList<>();
                for (int c = 0; c < m.cells(); c++) {
                    if ((set >> c & 1) == 1) {
                        row.add(c);
                    }
                }
                return row;
            }
        }
        throw new IllegalStateException("no cover");
    }

    private int firstCover(int k, int from, int so, int[] nears, int left) {
        if (k == 0) {
            return left == 0 ? so : -1;
        }
        for (int c = from; c < nears.length; c++) {
            int found = firstCover(k - 1, c + 1, so | 1 << c, nears, left & ~nears[c]);
            if (found >= 0) {
                return found;
            }
        }
        return -1;
    }

    int cover(int tray, int n) {
        int lacks = coverLacks(tray, n);
        return lacks != 0 ? no(lacks) : yes(covering(tray, n).size());
    }

    int coverAt(int tray, int n, int k) {
        int lacks = k < 0 ? 1 : coverLacks(tray, n);
        if (lacks != 0) {
            return no(lacks);
        }
        List<Integer> row = covering(tray, n);
        return k >= row.size() ? no(6) : yes(row.get(k));
    }

    // ---- what one likes, knows

    private int fitLacks(int hearer, int tray, int n) {
        int lacks = noHearer(hearer) || out(n, 0, 20) ? 1 : lacks(tray, 2 * n);
        for (int i = 0; lacks == 0 && i < 2 * n; i++) {
            lacks = out(trays[tray][i], 0, i % 2 == 0 ? m.tunes - 1 : 8) ? 5 : 0;
        }
        return lacks;
    }

    private int[] fitting(int hearer, int tray, int n) {
        return m.fits(hearer, Arrays.stream(trays[tray]).limit(2L * n).mapToInt(v -> (int) v).toArray());
    }

    int fits(int hearer, int tray, int n) {
        int lacks = fitLacks(hearer, tray, n);
        return lacks != 0 ? no(lacks) : yes(fitting(hearer, tray, n)[0]);
    }

    int sure(int hearer, int tray, int n) {
        int lacks = fitLacks(hearer, tray, n);
        if (lacks != 0) {
            return no(lacks);
        }
        int[] found = fitting(hearer, tray, n);
        return found[0] == 0 ? no(6) : yes(found[1]);
    }

    /** The KNOWERS of some ROUNDS; worlds in which the same was told so far bear the same number. */
    private int[] knowing(int floured, int sight, int rounds) {
        int n = m.hearers.size();
        int[] toldSo = new int[1 << n];
        int[] answer = new int[rounds];
        for (int r = 0; r < rounds; r++) {
            int[] know = new int[1 << n];
            for (int w = 1; w < 1 << n; w++) {
                for (int i = 0; i < n; i++) {
                    know[w] |= isSure(i, w, sight, toldSo) ? 1 << i : 0;
                }
            }
            answer[r] = know[floured];
            Map<Long, Integer> numbers = new HashMap<>();
            for (int w = 1; w < 1 << n; w++) {
                long key = toldSo[w] * 64L + know[w];
                numbers.putIfAbsent(key, numbers.size());
                toldSo[w] = numbers.get(key);
            }
        }
        return answer;
    }

    /** He is floured in all worlds that look to him as this one and in which the same was told. */
    private boolean isSure(int i, int world, int sight, int[] toldSo) {
        int sees = 0;
        for (int j = 0; j < m.hearers.size(); j++) {
            boolean near = m.far(m.hearers.get(i)[0], m.hearers.get(j)[0]) <= sight;
            sees |= near && j != i ? 1 << j : 0;
        }
        for (int w = 1; w < toldSo.length; w++) {
            if ((w & sees) == (world & sees) && toldSo[w] == toldSo[world] && (w >> i & 1) == 0) {
                return false;
            }
        }
        return true;
    }

    int rounds(int hearers, int sight) {
        if (noHearers(hearers) || out(sight, 0, 8)) {
            return no(1);
        }
        // each ROUND that brings something new tells two worlds apart, and there are 63
        int[] all = knowing(hearers, sight, 64);
        for (int r = 0; r < all.length; r++) {
            if (all[r] != 0) {
                return yes(r + 1);
            }
        }
        return no(6);
    }

    int knowers(int hearers, int sight, int round) {
        if (noHearers(hearers) || out(sight, 0, 8) || out(round, 1, 8)) {
            return no(1);
        }
        return yes(knowing(hearers, sight, round)[round - 1]);
    }

    // ---- games, odds

    int game(int n) {
        return out(n, 0, 4) ? no(1) : yes(m.game(0, n, 0, 0));
    }

    int moveOf(int n) {
        if (out(n, 1, 4)) {
            return no(1);
        }
        int move = m.move(n);
        return move < 0 ? no(6) : yes(move);
    }

    boolean crowd(int k) {
        return out(k, 0, 6) ? not(1) : fraction(m.crowd(k), 1L << 4 * m.hearers.size());
    }

    boolean share(int hearer) {
        if (noHearer(hearer)) {
            return not(1);
        }
        int all = m.hearers.stream().mapToInt(h -> h[1]).sum();
        return all == 0 ? not(6) : fraction(m.hearers.get(hearer)[1], all);
    }

    int copyCells(int tray) {
        int lacks = lacks(tray, m.hearers.size());
        if (lacks != 0) {
            return no(lacks);
        }
        for (int i = 0; i < m.hearers.size(); i++) {
            trays[tray][i] = m.hearers.get(i)[0];
        }
        return yes(m.hearers.size());
    }

    // ---- DAYS

    int live(int seed) {
        if (out(seed, 0, 9999)) {
            return no(1);
        }
        if (days == null) {
            return no(6);
        }
        days.live(m, seed);
        lived = new int[] {days.missed, days.plays, days.coins, days.hits, days.left};
        return yes(days.done);
    }

    int lived(int what) {
        if (out(what, 0, 4)) {
            return no(1);
        }
        return lived == null ? no(6) : yes(lived[what]);
    }

    boolean mean(int seed, int many) {
        if (out(many, 1, 20) || out(seed, 0, 9999) || seed + many - 1 > 9999) {
            return not(1);
        }
        if (days == null) {
            return not(6);
        }
        long all = 0;
        for (int i = 0; i < many; i++) {
            Model then = m.copy();
            days.live(then, seed + i);
            all += then.cup;
        }
        return fraction(all, many);
    }

    // ---- MARKS

    int mark() {
        if (marks.size() == 3) {
            return no(4);
        }
        marks.push(m.copy());
        // a row of nothing stands for no DAYS, since a Deque holds no null
        markedDays.push(days == null ? NO_DAYS : days);
        return yes(marks.size());
    }

    int undo() {
        if (marks.isEmpty()) {
            return no(6);
        }
        m = marks.pop();
        ModelDays kept = markedDays.pop();
        days = kept == NO_DAYS ? null : kept;
        return yes(marks.size());
    }

    private static final ModelDays NO_DAYS = new ModelDays(List.of(), 0);
}
