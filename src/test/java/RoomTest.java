import com.sun.management.ThreadMXBean;
import java.lang.management.ManagementFactory;
import java.lang.reflect.Method;
import java.util.ArrayList;
import java.util.Arrays;
import java.util.Comparator;
import java.util.List;
import java.util.Random;

/** Any calls with any arguments: nothing is thrown, what is refused changes nothing, and no call makes objects. */
public final class RoomTest {
    private static final Check C = new Check("RoomTest");
    private static final Random RANDOM = new Random(53);
    private static final int[] EDGES = {Integer.MIN_VALUE, -2, -1, 7, 8, 9, 15, 16, 17, 20, 21, 24, 25, 60, 61, 63, 64,
        99, 100, 300, 301, 900, 9999, 10000, Integer.MAX_VALUE};
    private static final String[] TEXTS = {
        "square 5 by 5; tune a; tune b; tune c; hearer at 24 likes a; hearer at 24 likes b; hearer at 20 likes c a; dog at 3; dog at 24;",
        "", "odds 16; tune a; hearer at 15 coins 99 likes a; dog at 0; dog at 1; dog at 2; dog at 3;",
        "tune a;tune b;tune c;tune d;tune e;tune f;hearer at 1 likes a b c d e f;hearer at 2;hearer at 3;hearer at 4;"
            + "hearer at 5 likes f;hearer at 6 coins 0;",
        "square 1 by 1; tune a; hearer at 0 likes a;", "odds 77;"};
    private static final String[] DAYS = {"loop 99; loop 99; any; end; end;", "", "any; play a; stop; play b;",
        "when cup < 3; loop 5; end; end; loop 9; loop 9; loop 9; throw 0; end; play a; end; end; empty;", "end;"};

    public static void main(String[] args) throws Exception {
        List<Method> calls = new ArrayList<>();
        for (Method m : UnseenRing.class.getDeclaredMethods()) {
            if ((m.getModifiers() & 1) != 0) {
                calls.add(m);
            }
        }
        calls.sort(Comparator.comparing(Method::getName));
        for (int i = 0; i < 400; i++) {
            anyCalls(calls, i % 4 == 0);
        }
        room();
        C.end();
    }

    private static void anyCalls(List<Method> calls, boolean looks) throws Exception {
        UnseenRing x = new UnseenRing();
        for (int i = 0; i < 300; i++) {
            if (RANDOM.nextInt(60) == 0) {
                Check.square(x, TEXTS[RANDOM.nextInt(TEXTS.length)]);
                Check.days(x, DAYS[RANDOM.nextInt(DAYS.length)]);
            }
            Method m = calls.get(RANDOM.nextInt(calls.size()));
            Object[] given = Arrays.stream(m.getParameterTypes()).map(RoomTest::given).toArray();
            List<Long> ahead = looks ? look(x) : null;
            Object answer = m.invoke(x, given);
            if (!hasStatus(m)) {
                continue;
            }
            String call = m.getName() + Arrays.toString(given);
            int status = x.status();
            C.due("status of " + call, status >= 0 && status <= 9, true);
            C.due("bottom behind " + call, x.bottom() > 0, true);
            if (status != 0) {
                C.due("refused " + call, answer.equals(false) || ((answer instanceof Number n) && n.longValue() == -1), true);
                if (looks) {
                    C.due("nothing changed by " + call, look(x).equals(ahead), true);
                }
            } else {
                C.due("done " + call, answer.equals(false), false);
            }
        }
    }

    private static boolean hasStatus(Method m) {
        return !List.of("status", "top", "bottom", "feed", "fault").contains(m.getName());
    }

    private static Object given(Class<?> type) {
        if (type == boolean.class) {
            return RANDOM.nextBoolean();
        }
        int number = RANDOM.nextInt(5) == 0 ? EDGES[RANDOM.nextInt(EDGES.length)] : RANDOM.nextInt(5);
        if (type == long.class) {
            return RANDOM.nextInt(4) == 0 ? RANDOM.nextLong() : (long) number;
        }
        return number;
    }

    /** All that can be asked without a change. */
    private static List<Long> look(UnseenRing x) {
        List<Long> seen = new ArrayList<>(List.of(x.top(), x.bottom()));
        for (int i = 0; i <= 10; i++) {
            seen.add((long) x.told(i));
        }
        for (int i = 0; i < 6; i++) {
            for (int what = 0; what < 5; what++) {
                seen.add((long) x.hearer(i, what));
                seen.add((long) x.lived(what));
            }
        }
        for (int tray = 0; tray < 4; tray++) {
            for (int i = 0; i < 60; i++) {
                seen.add(x.read(tray, i));
                seen.add((long) x.status());
            }
        }
        return seen;
    }

    private static void room() {
        ThreadMXBean threads = (ThreadMXBean) ManagementFactory.getThreadMXBean();
        UnseenRing x = Check.of(TEXTS[0]);
        dear(x);
        long ahead = threads.getCurrentThreadAllocatedBytes();
        for (int i = 0; i < 100; i++) {
            dear(x);
        }
        long used = threads.getCurrentThreadAllocatedBytes() - ahead;
        C.due("calls make no objects (" + used + " bytes)", used < 4096, true);
        ahead = threads.getCurrentThreadAllocatedBytes();
        for (int i = 0; i < 10; i++) {
            x = new UnseenRing();
        }
        used = (threads.getCurrentThreadAllocatedBytes() - ahead) / 10;
        C.due("a new object is small (" + used + " bytes)", used < 40000, true);
    }

    private static void dear(UnseenRing x) {
        x.tray(0, 3, 60);
        Check.days(x, DAYS[0]);
        Check.square(x, TEXTS[3]);
        Check.square(x, TEXTS[0]);
        Check.days(x, DAYS[0]);
        x.gather(7);
        x.gatherAt(7, 9);
        x.explain(3);
        x.placings(3, 4);
        x.oddsThat(3, 4, 2);
        x.aim(3, 4);
        x.coverAt(0, 8, 0);
        x.fits(0, 0, 20);
        x.sure(0, 0, 20);
        x.rounds(7, 1);
        x.knowers(7, 2, 8);
        x.game(4);
        x.moveOf(4);
        x.bestPitch(0, 20);
        x.crowd(2);
        x.share(1);
        x.copyCells(0);
        x.mark();
        x.live(5);
        x.mean(5, 20);
        x.undo();
    }
}
