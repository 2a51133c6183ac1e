import java.lang.reflect.Method;
import java.lang.reflect.Modifier;
import java.util.ArrayList;
import java.util.Arrays;
import java.util.HashMap;
import java.util.List;
import java.util.Map;
import java.util.Random;
import java.util.TreeMap;

/**
 * Runs of 512 calls on one object, in which texts, TRAYS, deeds, what is asked ahead, DAYS and MARKS stand mixed, also
 * behind refused calls: each answer against that of a Whole. The same runs each time.
 */
public final class LongRunTest {
    private static final int MOST_CALLS = 512;
    private static final int LOOKS = 130;
    private static final int RUNS = 2000;
    private static final int[] EDGES = {Integer.MIN_VALUE, Integer.MIN_VALUE + 1, -60, -2, -1, 0, 31, 32, 33, 61, 64, 255,
        256, 301, 901, 10000, 65536, Integer.MAX_VALUE - 1, Integer.MAX_VALUE};
    /** What is called as it comes, the more often the more it stands here; texts and TRAYS come in rows of calls. */
    private static final String[] CALLS = ("play play play play grind grind throwAt throwAt brush send send give give "
            + "teach teach come empty rule takings pitch bestPitch soon gather gatherAt gatherAt explain placings oddsThat "
            + "aim cover coverAt fits sure rounds knowers game moveOf crowd share copyCells live live lived lived mean "
            + "mark mark undo tray write write read read pour pour told told hearer hearer dog cell likers fault top "
            + "bottom status").split(" ");
    private static final Check C = new Check("LongRunTest");
    private static final Map<String, Method> OURS = methodsOf(UnseenRing.class);
    private static final Map<String, Method> DUE = methodsOf(Whole.class);
    /** Of each call how often it had each STATUS. */
    private static final Map<String, int[]> ANSWERED = new TreeMap<>();
    private static final int[] FAULTS = new int[8];

    private final Random random;
    /** Of a hundred numbers so many are not those that can be. */
    private final int odd;
    private final List<String> calls = new ArrayList<>();
    private UnseenRing x = new UnseenRing();
    private Whole whole = new Whole();

    private LongRunTest(int seed) {
        random = new Random(seed);
        odd = new int[] {0, 3, 8, 30}[seed % 4];
    }

    public static void main(String[] args) throws Exception {
        for (int seed = 0; seed < RUNS; seed++) {
            LongRunTest run = new LongRunTest(seed);
            if (seed % 10 == 9) {
                run.rich();
            }
            run.mixed(MOST_CALLS - LOOKS);
            run.look();
            C.due("calls of run " + seed, run.calls.size() <= MOST_CALLS, true);
        }
        enough();
        C.end();
    }

    /** Runs in which little could be answered, or nothing was refused, would tell little. */
    private static void enough() {
        for (String name : ANSWERED.keySet()) {
            C.due("answers of " + name + " are enough", ANSWERED.get(name)[0] >= RUNS / 4, true);
        }
        C.due("calls of the face", ANSWERED.size(), OURS.size());
        int[] all = new int[10];
        for (int[] one : ANSWERED.values()) {
            for (int why = 0; why < 10; why++) {
                all[why] += one[why];
            }
        }
        for (int why = 0; why < 10; why++) {
            C.due("calls with STATUS " + why + " are enough", all[why] >= RUNS / 4, true);
        }
        for (int kind = 1; kind <= 7; kind++) {
            C.due("texts with FAULT " + kind + " are enough", FAULTS[kind] >= RUNS / 40, true);
        }
    }

    private static Map<String, Method> methodsOf(Class<?> c) {
        Map<String, Method> all = new HashMap<>();
        for (Method m : c.getDeclaredMethods()) {
            boolean isOurs = c == UnseenRing.class;
            if (!m.isSynthetic() && (!isOurs || Modifier.isPublic(m.getModifiers()))) {
                m.setAccessible(true);
                all.put(m.getName() + m.getParameterCount(), m);
            }
        }
        return all;
    }

    // ---- one call

    private boolean hasRoom() {
        return calls.size() < MOST_CALLS;
    }

    private void call(String name, Object... given) throws Exception {
        if (!hasRoom()) {
            return;
        }
        String key = name + given.length;
        String call = name + Arrays.toString(given);
        calls.add(call);
        long got = number(OURS.get(key).invoke(x, given));
        long want = number(DUE.get(key).invoke(whole, given));
        boolean hasStatus = !List.of("status", "top", "bottom", "feed", "fault").contains(name);
        int why = hasStatus ? whole.status() : 0;
        ANSWERED.computeIfAbsent(name, k -> new int[10])[why]++;
        if (why == 9) {
            FAULTS[whole.fault(0)]++;
        }
        C.due("call " + calls.size() + " of this run, " + call + (got == want ? "" : ", behind " + calls), got, want);
    }

    private static long number(Object answer) {
        return answer instanceof Boolean b ? b ? 1 : 0 : ((Number) answer).longValue();
    }

    // ---- what is given

    private int in(int least, int most) {
        if (random.nextInt(100) < odd) {
            int kind = random.nextInt(3);
            return kind == 0 ? EDGES[random.nextInt(EDGES.length)] : kind == 1 ? least - 1 : most + 1;
        }
        return most < least ? least : least + random.nextInt(most - least + 1);
    }

    private int few(int most) {
        return random.nextInt(3) == 0 ? in(0, most) : in(0, Math.min(most, 3));
    }

    private int trayNumber() {
        return in(0, 3);
    }

    private int placeIn(int tray) {
        int many = tray >= 0 && tray < 4 ? whole.inTray(tray) : 0;
        return random.nextInt(3) == 0 ? in(0, many - 1) : in(0, Math.min(many, 10) - 1);
    }

    private long anyNumber() {
        int kind = random.nextInt(10);
        return kind == 0 ? random.nextLong() : kind == 1 ? random.nextInt() : kind == 2 ? -1 : random.nextInt(kind < 6 ? 25 : 5);
    }

    private Object[] given(String name) {
        Model m = whole.now();
        int cell = in(0, m.cells() - 1);
        int hearer = in(0, m.hearers.size() - 1);
        int tune = in(0, m.tunes - 1);
        int hearers = in(random.nextInt(9) == 0 ? 0 : 1, (1 << m.hearers.size()) - 1);
        int dogs = random.nextInt(3) == 0 ? m.up() : in(0, (1 << m.dogs.size()) - 1);
        int tray = trayNumber();
        switch (name) {
            case "told":
                return new Object[] {in(0, 10)};
            case "hearer":
                return new Object[] {hearer, in(0, 4)};
            case "dog":
                return new Object[] {in(0, m.dogs.size() - 1), in(0, 1)};
            case "cell":
                return new Object[] {cell, in(0, 2)};
            case "likers":
            case "play":
                return new Object[] {tune};
            case "grind":
            case "throwAt":
            case "come":
                return new Object[] {cell};
            case "send":
                return new Object[] {hearer, cell};
            case "give":
                return new Object[] {hearer, random.nextInt(3) == 0 ? 99 : in(0, random.nextInt(2) == 0 ? 5 : 99)};
            case "teach":
                return new Object[] {hearer, tune, random.nextInt(3) > 0};
            case "rule":
                return new Object[] {in(0, 16)};
            case "takings":
            case "bestPitch":
                return new Object[] {tune, in(0, 20)};
            case "pitch":
                return new Object[] {cell, tune, in(0, 20)};
            case "soon":
            case "share":
                return new Object[] {hearer};
            case "gather":
                return new Object[] {hearers};
            case "gatherAt":
                return new Object[] {hearers, few(9)};
            case "explain":
                return new Object[] {dogs};
            case "placings":
            case "aim":
                return new Object[] {dogs, in(0, 4)};
            case "oddsThat":
                return new Object[] {dogs, in(0, 4), cell};
            default:
                return givenMore(name, hearer, hearers, tray);
        }
    }

    private Object[] givenMore(String name, int hearer, int hearers, int tray) {
        switch (name) {
            case "cover":
                return new Object[] {tray, few(8)};
            case "coverAt":
                return new Object[] {tray, few(8), few(4)};
            case "fits":
            case "sure":
                return new Object[] {hearer, tray, few(20)};
            case "rounds":
                return new Object[] {hearers, in(0, 8)};
            case "knowers":
                return new Object[] {hearers, in(0, 8), in(1, 8)};
            case "game":
                return new Object[] {in(0, 4)};
            case "moveOf":
                return new Object[] {in(1, 4)};
            case "crowd":
                return new Object[] {in(0, 6)};
            case "copyCells":
                return new Object[] {tray};
            case "live":
                return new Object[] {in(0, 9999)};
            case "lived":
                return new Object[] {in(0, 4)};
            case "mean":
                return new Object[] {in(0, random.nextInt(9) == 0 ? 9999 : 9980), in(1, 20)};
            case "tray":
                return new Object[] {tray, in(0, 3), random.nextInt(3) == 0 ? in(0, 60) : in(0, 12)};
            case "write":
                return new Object[] {tray, placeIn(tray), anyNumber()};
            case "read":
                return new Object[] {tray, placeIn(tray)};
            case "pour":
                int to = trayNumber();
                return new Object[] {tray, placeIn(tray), random.nextInt(3) == 0 ? tray : to, placeIn(to), few(60)};
            case "fault":
                return new Object[] {in(0, 1)};
            default:
                return new Object[0];
        }
    }

    // ---- rows of calls

    private void mixed(int most) throws Exception {
        feedSquare();
        for (int tray = 0; tray < 4; tray++) {
            if (random.nextInt(3) > 0) {
                call("tray", tray, in(0, 3), in(0, 20));
            }
        }
        while (calls.size() < most) {
            int kind = random.nextInt(60);
            if (kind == 0) {
                feedSquare();
            } else if (kind == 5) {
                readAnything();
            } else if (kind <= 2) {
                feedDays();
            } else if (kind == 3) {
                covered();
            } else if (kind == 4) {
                twos();
            } else {
                String name = CALLS[random.nextInt(CALLS.length)];
                call(name, given(name));
            }
            if (random.nextInt(2) == 0) {
                call("status");
            }
        }
    }

    /** Behind a text come now and then some bytes that are not read, or it is read too far or not far enough. */
    private void feedText(String text, String reader) throws Exception {
        String bytes = text + "\u0000\u00ff~ ;tune x;odds 5;XYZ".substring(0, 20);
        int ahead = whole.onTape();
        for (int i = 0; i < text.length(); i += 20) {
            Object[] five = new Object[5];
            for (int k = 0; k < 5; k++) {
                five[k] = four(bytes, i + 4 * k);
            }
            call("feed", five);
        }
        int length = ahead + text.length();
        call(reader, random.nextInt(12) == 0 ? in(length - 5, length + 5) : length);
        call("status");
        call("fault", 0);
        call("fault", 1);
    }

    /** Some bytes, or none, are left on the tape by a length that can't be, or are read as a text. */
    private void readAnything() throws Exception {
        boolean isMore = random.nextInt(4) == 0;
        for (int i = 0; isMore && i < (odd == 30 && random.nextInt(9) == 0 ? 46 : 1); i++) {
            call("feed", 0x74756e65, 0x20200a20, random.nextInt(), 0x3b00ff3b, random.nextInt());
        }
        String reader = random.nextInt(2) == 0 ? "square" : "days";
        call(reader, isMore || random.nextInt(9) == 0 ? in(0, whole.onTape()) : EDGES[random.nextInt(EDGES.length)]);
        call("fault", in(0, 1));
    }

    private static int four(String bytes, int from) {
        int four = 0;
        for (int i = from; i < from + 4; i++) {
            four = four << 8 | (i < bytes.length() ? bytes.charAt(i) : 0);
        }
        return four;
    }

    private void feedSquare() throws Exception {
        AnyText text = new AnyText(random).square(random.nextInt(3) == 0);
        feedText((random.nextInt(4) == 0 ? text.spoilt() : text).told(), "square");
    }

    private void feedDays() throws Exception {
        AnyText text = new AnyText(random).days(whole.now(), random.nextInt(random.nextInt(5) == 0 ? 31 : 7));
        feedText((random.nextInt(4) == 0 ? text.spoilt() : text).told(), "days");
        call("live", in(0, 9999));
        call("mean", in(0, 9980), in(1, 20));
        call("top");
        call("bottom");
    }

    private void covered() throws Exception {
        int tray = trayNumber();
        int n = in(0, 8);
        call("tray", tray, in(0, 3), n);
        for (int i = 0; i < n && i < 8; i++) {
            call("write", tray, i, (long) in(0, whole.now().cells() - 1));
        }
        call("cover", tray, n);
        for (int k = 0; k < 4; k++) {
            call("coverAt", tray, n, k);
            call("status");
        }
    }

    /** What a HEARER who LIKES some TUNES would do. */
    private void twos() throws Exception {
        Model m = whole.now();
        if (m.hearers.isEmpty() || m.tunes == 0) {
            return;
        }
        int hearer = random.nextInt(m.hearers.size());
        int[] he = m.hearers.get(hearer);
        he[2] = random.nextInt(1 << m.tunes);
        int tray = random.nextInt(4);
        int n = 1 + random.nextInt(6);
        call("tray", tray, in(0, 3), 2 * n);
        for (int i = 0; i < n; i++) {
            int tune = random.nextInt(m.tunes);
            m.play(tune);
            call("write", tray, 2 * i, (long) tune);
            call("write", tray, 2 * i + 1, (long) (random.nextInt(20) == 0 ? in(0, 8) : m.far(he[0], m.organ)));
        }
        call("fits", hearer, tray, n);
        call("sure", hearer, tray, n);
        call("status");
    }

    /** A CUP that is nearly full takes some 130 calls. */
    private void rich() throws Exception {
        feedText("odds 16; tune a; tune b;" + "hearer at 0 coins 99 likes a;".repeat(5) + "hearer at 0 likes a b;", "square");
        feedText("loop 99; play a; end;", "days");
        for (int i = 0; i < 17; i++) {
            for (int hearer = 0; hearer < 6; hearer++) {
                call("give", hearer, 99);
            }
            call("live", i);
        }
        call("told", 7);
        call("lived", 2);
        call("mean", 3, 3);
        call("top");
        call("bottom");
    }

    /** What the run came to is looked at with the calls that are left, MARK by MARK. */
    private void look() throws Exception {
        call("top");
        call("bottom");
        for (int what = 0; what < 5; what++) {
            call("lived", what);
        }
        for (int tray = 0; tray < 4; tray++) {
            call("read", tray, random.nextInt(4));
            call("status");
        }
        while (hasRoom()) {
            for (int what = 0; what <= 10; what++) {
                call("told", what);
            }
            for (int hearer = 0; hearer < whole.now().hearers.size(); hearer++) {
                for (int what = 0; what < 3; what++) {
                    call("hearer", hearer, what);
                }
            }
            call("live", random.nextInt(10000));
            call("told", 6);
            call("told", 7);
            call("undo");
            call("status");
        }
    }
}
