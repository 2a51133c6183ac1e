import java.util.ArrayList;
import java.util.List;
import java.util.function.Consumer;
import java.util.function.Predicate;
import java.util.function.ToLongFunction;

/**
 * Two objects that are made alike: one is asked something, the other is not, and behind it both must tell the
 * same of all that can be told.
 */
final class Twin {
    private static final int MOST_CALLS = 512;

    /** A SQUARE of which all is in use: TRAYS, a tape, DAYS, two MARKS, a FRACTION, a FAULT, and what was LIVED. */
    static final Consumer<UnseenRing> FULL = x -> {
        Check.square(x, "square 3 by 3; odds 4; organ 4; tune a; tune b; tune c; hearer at 0 coins 2 likes a b;"
                + "hearer at 4 coins 5 likes a; hearer at 8; dog at 1; dog at 8;");
        Check.days(x, "brush; play a; any; loop 2; throw 1; end; send 2 6;");
        x.live(11);
        x.mark();
        x.play(0);
        x.throwAt(4);
        x.crowd(1);
        x.mark();
        x.grind(3);
        Check.days(x, "play b; any; any; stop;");
        x.tray(0, 0, 4);
        x.tray(1, 1, 3);
        for (int i = 0; i < 4; i++) {
            x.write(0, i, i + 5);
            x.write(1, i, i + 1);
        }
        Check.square(x, "odds 99;");
        Check.feed(x, "odds 7; hearer at 2;");
    };

    private final Check check;
    private final Consumer<UnseenRing> ahead;

    Twin(Check check, Consumer<UnseenRing> ahead) {
        this.check = check;
        this.ahead = ahead;
    }

    /** The same twins, behind something more. */
    Twin behind(Consumer<UnseenRing> more) {
        return new Twin(check, ahead.andThen(more));
    }

    /** The call gives NONE and a STATUS, and changes nothing else. */
    void refused(String what, int status, ToLongFunction<UnseenRing> call) {
        asked(what, UnseenRing.NONE, status, call, true);
    }

    void refusedFlag(String what, int status, Predicate<UnseenRing> call) {
        asked(what, 0, status, x -> call.test(x) ? 1 : 0, true);
    }

    /** The call gives an answer with STATUS 0, and changes nothing. */
    void told(String what, long want, ToLongFunction<UnseenRing> call) {
        asked(what, want, 0, call, true);
    }

    /** A text with a FAULT: only the tape and what fault() tells are others behind it. */
    void faulty(String what, int fault, int place, ToLongFunction<UnseenRing> call) {
        UnseenRing x = asked(what, UnseenRing.NONE, 9, call, false);
        check.due(what + ": fault(0)", x.fault(0), fault);
        check.due(what + ": fault(1)", x.fault(1), place);
    }

    private UnseenRing asked(String what, long want, int status, ToLongFunction<UnseenRing> call, boolean withTape) {
        UnseenRing one = made();
        UnseenRing other = made();
        check.due(what, call.applyAsLong(one), want);
        check.due(what + ": status()", one.status(), status);
        UnseenRing fresh = withTape ? one : made();
        if (!withTape) {
            call.applyAsLong(fresh);
            check.due(what + ": an empty tape", fresh.feed(0, 0, 0, 0, 0), 20);
            fresh = made();
            call.applyAsLong(fresh);
        }
        same(what, look(fresh, withTape), look(other, withTape));
        return one;
    }

    private UnseenRing made() {
        UnseenRing x = new UnseenRing();
        ahead.accept(x);
        return x;
    }

    private void same(String what, List<Long> got, List<Long> want) {
        check.due(what + ": how much is told behind it", got.size(), want.size());
        for (int i = 0; i < Math.min(got.size(), want.size()); i++) {
            check.due(what + ": look " + i + " behind it", got.get(i), want.get(i));
        }
    }

    /** All that can be told of an object; it is used up by that. */
    private static List<Long> look(UnseenRing x, boolean withTape) {
        List<Long> all = new ArrayList<>();
        all.add(x.top());
        all.add(x.bottom());
        if (withTape) {
            all.add((long) x.fault(0));
            all.add((long) x.fault(1));
        }
        for (int what = 0; what < 5; what++) {
            all.add((long) x.lived(what));
        }
        lookAtTrays(x, all);
        lookAtSquare(x, all);
        lookAtDays(x, all);
        for (int left = x.undo(); left != UnseenRing.NONE; left = x.undo()) {
            all.add((long) left);
            lookAtSquare(x, all);
            lookAtDays(x, all);
        }
        if (withTape) {
            lookAtTape(x, all);
        }
        if (all.size() > MOST_CALLS - 100) {
            throw new IllegalStateException("too many calls for one object: " + all.size());
        }
        return all;
    }

    private static void lookAtTrays(UnseenRing x, List<Long> all) {
        for (int tray = 0; tray < 4; tray++) {
            for (int place = 0; place < 61; place++) {
                all.add(x.read(tray, place));
                if (x.status() != 0) {
                    all.add((long) x.status());
                    break;
                }
            }
        }
    }

    private static void lookAtSquare(UnseenRing x, List<Long> all) {
        for (int what = 0; what <= 10; what++) {
            all.add((long) x.told(what));
        }
        int hearers = x.told(3);
        for (int hearer = 0; hearer < hearers; hearer++) {
            for (int what = 0; what < 5; what++) {
                all.add((long) x.hearer(hearer, what));
            }
        }
        int dogs = x.told(4);
        for (int dog = 0; dog < dogs; dog++) {
            all.add((long) x.dog(dog, 0));
        }
    }

    /** DAYS are told by what becomes of the SQUARE. */
    private static void lookAtDays(UnseenRing x, List<Long> all) {
        all.add((long) x.live(77));
        all.add((long) x.told(6));
        all.add((long) x.told(7));
        all.add((long) x.told(8));
        all.add((long) x.told(9));
        int hearers = x.told(3);
        for (int hearer = 0; hearer < hearers; hearer++) {
            all.add((long) x.hearer(hearer, 0));
            all.add((long) x.hearer(hearer, 2));
        }
    }

    private static void lookAtTape(UnseenRing x, List<Long> all) {
        int length = x.feed(0x20202020, 0x20202020, 0x20202020, 0x20202020, 0x20202020);
        all.add((long) length);
        all.add((long) x.square(length < 0 ? 900 : length - 20));
        all.add((long) x.fault(0));
        all.add((long) x.fault(1));
        all.add((long) x.told(5));
    }
}
