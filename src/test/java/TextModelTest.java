import java.util.Random;

/** Many texts by chance (the same in each run), with and without a FAULT: the class against ModelText. */
public final class TextModelTest {
    private static final Check C = new Check("TextModelTest");
    private static final Random RANDOM = new Random(900);
    private static final int TEXTS = 15000;
    private static final String FULL = "square 5 by 4; tune a; tune polka; tune abcdefgh; hearer at 19 likes a;"
            + "hearer at 0; hearer at 3 likes polka; dog at 7; dog at 8;";
    private static final int[] SQUARE_FAULTS = new int[8];
    private static final int[] DAYS_FAULTS = new int[8];

    public static void main(String[] args) {
        for (int i = 0; i < TEXTS; i++) {
            AnyText text = new AnyText(RANDOM).square(i % 3 == 0);
            square((i % 4 == 0 ? text : text.spoilt()).told());
        }
        for (int i = 0; i < TEXTS; i++) {
            String square = i % 5 == 0 ? "square 2 by 1;" : FULL;
            AnyText text = new AnyText(RANDOM).days(ModelText.square(square), RANDOM.nextInt(i % 7 == 0 ? 34 : 12));
            days(square, (i % 4 == 0 ? text : text.spoilt()).told());
        }
        for (int kind = 0; kind <= 7; kind++) {
            C.due("squares with fault " + kind, SQUARE_FAULTS[kind] >= (kind == 7 ? 0 : 50), true);
            C.due("days with fault " + kind, DAYS_FAULTS[kind] >= (kind == 5 ? 0 : 50), true);
        }
        C.end();
    }

    /** Blanks are set behind some texts, up to the 900 bytes that a tape has; of some not all is read. */
    private static void square(String told) {
        int room = 900 - told.length();
        String tape = room > 0 && RANDOM.nextInt(9) == 0 ? told + " ".repeat(RANDOM.nextInt(room + 1)) : told;
        if (tape.length() > 900) {
            return;
        }
        String text = tape.substring(0, readOf(tape));
        UnseenRing x = new UnseenRing();
        Check.feed(x, tape);
        int got = x.square(text.length());
        try {
            Model m = ModelText.square(text);
            C.fine(x, "square " + text, got, m.hearers.size());
            fault(x, text, 0, -1, SQUARE_FAULTS);
            same(m, x, text);
        } catch (ModelText.Fault f) {
            C.refused(x, "square " + text, got, 9);
            fault(x, text, f.kind, f.place, SQUARE_FAULTS);
            same(ModelText.square(""), x, text);
        }
    }

    private static int readOf(String tape) {
        return RANDOM.nextInt(4) == 0 ? RANDOM.nextInt(tape.length() + 1) : tape.length();
    }

    private static void days(String square, String tape) {
        String text = tape.substring(0, readOf(tape));
        if (text.length() > 300) {
            return;
        }
        UnseenRing x = Check.of(square);
        Model then = ModelText.square(square);
        Check.feed(x, tape);
        int got = x.days(text.length());
        try {
            ModelDays days = ModelText.days(text, then);
            C.fine(x, "days " + text, got, days.steps());
            fault(x, text, 0, -1, DAYS_FAULTS);
            days.live(then, 77);
            C.fine(x, "live " + text, x.live(77), days.done);
            same(then, x, text);
        } catch (ModelText.Fault f) {
            C.refused(x, "days " + text, got, 9);
            fault(x, text, f.kind, f.place, DAYS_FAULTS);
            C.refused(x, "no days behind " + text, x.live(0), 6);
        }
    }

    private static void fault(UnseenRing x, String text, int kind, int place, int[] faults) {
        faults[kind]++;
        C.due("fault(0) of " + text, x.fault(0), kind);
        C.due("fault(1) of " + text, x.fault(1), place);
    }

    private static void same(Model m, UnseenRing x, String text) {
        int[] told = {m.wide, m.high, m.tunes, m.hearers.size(), m.dogs.size(), m.odds, m.organ, m.cup, m.played, m.seen()};
        for (int what = 0; what < told.length; what++) {
            C.fine(x, "told(" + what + ") of " + text, x.told(what), told[what]);
        }
        for (int i = 0; i < m.hearers.size(); i++) {
            C.fine(x, "a cell of " + text, x.hearer(i, 0), m.hearers.get(i)[0]);
            C.fine(x, "likes of " + text, x.hearer(i, 1), m.hearers.get(i)[2]);
            C.fine(x, "coins of " + text, x.hearer(i, 2), m.hearers.get(i)[1]);
        }
        for (int i = 0; i < m.dogs.size(); i++) {
            C.fine(x, "a dog of " + text, x.dog(i, 0), m.dogs.get(i));
        }
    }
}
