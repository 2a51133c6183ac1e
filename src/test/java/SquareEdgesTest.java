/** What is told of a SQUARE and done in it, sentence by sentence: '==== 2', promises 1 and 13 to 27. */
public final class SquareEdgesTest {
    private static final Check C = new Check("SquareEdgesTest");
    private static final int LOW = Integer.MIN_VALUE;
    private static final int HIGH = Integer.MAX_VALUE;
    private static final String NINE = "square 3 by 3; organ 4; tune a; tune b; tune c; hearer at 0 coins 2 likes a b;"
            + "hearer at 4 coins 1 likes a; hearer at 8; dog at 1; dog at 8;";
    private static final Twin FULL = new Twin(C, Twin.FULL);

    public static void main(String[] args) {
        newObject();
        far();
        steps();
        plays();
        cup();
        dogs();
        throwsAndBrushes();
        tells();
        playEdges();
        moves();
        gives();
        teaches();
        comes();
        empties();
        rules();
        C.end();
    }

    private static void newObject() {
        C.sentence("A new object");
        UnseenRing x = new UnseenRing();
        C.due("status()", x.status(), 0);
        C.due("top()", x.top(), 0);
        C.due("bottom()", x.bottom(), 1);
        C.due("fault(0)", x.fault(0), -1);
        C.due("fault(1)", x.fault(1), -1);
        int[] told = {4, 4, 0, 0, 0, 8, 0, 0, 0, 0, 0};
        for (int i = 0; i < told.length; i++) {
            C.fine(x, "told(" + i + ")", x.told(i), told[i]);
        }
        C.refused(x, "hearer(0, 0)", x.hearer(0, 0), 1);
        C.refused(x, "dog(0, 0)", x.dog(0, 0), 1);
        C.refused(x, "likers(0)", x.likers(0), 1);
        C.fine(x, "cell(15, 1)", x.cell(15, 1), 6);
        C.refused(x, "cell(16, 1)", x.cell(16, 1), 1);
        C.refused(x, "no DAYS", x.live(0), 6);
        C.refused(x, "no DAYS", x.mean(0, 1), 6);
        C.refused(x, "nothing was lived", x.lived(0), 6);
        C.refused(x, "no MARKS", x.undo(), 6);
        for (int tray = 0; tray < 4; tray++) {
            C.refused(x, "TRAYS are MISSING", x.read(tray, 0), 2);
        }
        C.refused(x, "an empty tape", x.square(1), 1);
        C.due("an empty tape", x.feed(0, 0, 0, 0, 0), 20);
    }

    private static void far() {
        C.sentence("FAR are two CELLS by how many columns and rows they are apart, together");
        UnseenRing x = Check.of("square 5 by 5; hearer at 0; dog at 0;");
        C.fine(x, "corner to corner", x.cell(24, 1), 8);
        C.fine(x, "along a row", x.cell(4, 1), 4);
        C.fine(x, "along a column", x.cell(20, 1), 4);
        C.fine(x, "the same", x.cell(0, 1), 0);
        C.fine(x, "the row's end and the next one's beginning", x.cell(5, 1), 1);
        C.fine(x, "grind", x.grind(24), 8);
        C.fine(x, "send", x.send(0, 24), 8);
        C.fine(x, "grind back", x.grind(0), 8);
        C.fine(x, "hearer", x.hearer(0, 3), 8);
        UnseenRing y = Check.of("square 2 by 5; organ 1;");
        C.fine(y, "two wide", y.cell(8, 1), 5);
        UnseenRing z = Check.of("square 5 by 2; organ 4;");
        C.fine(z, "two high", z.cell(5, 1), 5);
        C.sentence("BESIDE are those that are FAR by 1: not around the square's side");
        UnseenRing w = Check.of("square 5 by 5; hearer at 4; dog at 5; dog at 3; dog at 9; dog at 0;");
        C.fine(w, "dogs up", w.told(10), 2 + 4);
        C.refused(w, "a throw at 5 misses one in 4", w.throwAt(5), 7);
        C.refused(w, "a throw at 24 misses one in 4", w.throwAt(24), 7);
        C.fine(w, "a throw at 9 hits him", w.throwAt(9), 1);
        UnseenRing v = Check.of("square 1 by 5; hearer at 2; dog at 0; dog at 1; dog at 3; dog at 4;");
        C.fine(v, "one wide", v.told(10), 2 + 4);
        UnseenRing u = Check.of("square 1 by 1; tune a; hearer at 0 coins 1 likes a; dog at 0;");
        C.fine(u, "one cell: up", u.told(10), 1);
        C.fine(u, "one cell: play", u.play(0), 1);
        C.fine(u, "one cell: throw", u.throwAt(0), 1);
        C.refused(u, "one cell: grind", u.grind(0), 7);
        C.refused(u, "one cell: send", u.send(0, 0), 7);
    }

    /** Where one who is in a cell goes by one PLAY. */
    private static void step(int organ, int from, int to) {
        UnseenRing x = Check.of("square 5 by 5; organ " + organ + "; tune a; hearer at " + from + " likes a;");
        C.fine(x, "play", x.play(0), 0);
        C.fine(x, "from " + from + " to the organ in " + organ, x.hearer(0, 0), to);
    }

    private static void steps() {
        C.sentence("in the same row, if it is as many columns away as rows");
        step(12, 6, 7);
        step(12, 8, 7);
        step(12, 16, 17);
        step(12, 18, 17);
        step(12, 0, 1);
        step(12, 24, 23);
        step(0, 24, 23);
        step(24, 0, 1);
        C.sentence("or more");
        step(12, 5, 6);
        step(12, 9, 8);
        step(12, 10, 11);
        step(12, 13, 12);
        step(0, 4, 3);
        C.sentence("else to that in the same column that is nearer");
        step(12, 1, 6);
        step(12, 3, 8);
        step(12, 21, 16);
        step(12, 23, 18);
        step(12, 2, 7);
        step(12, 22, 17);
        step(12, 17, 12);
        step(20, 0, 5);
        C.sentence("in a square of one column, one row");
        UnseenRing x = Check.of("square 1 by 5; organ 4; tune a; hearer at 0 likes a; hearer at 3 likes a;");
        UnseenRing y = Check.of("square 5 by 1; organ 0; tune a; hearer at 4 likes a; hearer at 1 likes a;");
        for (int i = 1; i <= 4; i++) {
            C.fine(x, "down", x.play(0), i == 1 ? 0 : 1);
            C.fine(x, "down", x.hearer(0, 0), i);
            C.fine(y, "to the left", y.play(0), i == 1 ? 0 : 1);
            C.fine(y, "to the left", y.hearer(0, 0), 4 - i);
        }
    }

    private static void plays() {
        C.sentence("each HEARER who LIKES it goes a STEP; who is in its CELL already gives a COIN, if he has one");
        UnseenRing x = Check.of("tune a; tune b; hearer at 1 coins 5 likes a; hearer at 0 coins 1 likes a b;"
                + "hearer at 0 coins 0 likes a; hearer at 0 coins 9; hearer at 1 coins 5;");
        C.fine(x, "play", x.play(0), 1);
        C.due("he came, and gave nothing yet", x.hearer(0, 2), 5);
        C.due("he is there", x.hearer(0, 0), 0);
        C.due("he gave", x.hearer(1, 2), 0);
        C.due("he had none", x.hearer(2, 2), 0);
        C.due("he does not like it", x.hearer(3, 2), 9);
        C.due("he does not like it, and stays", x.hearer(4, 0), 1);
        C.fine(x, "play", x.play(0), 1);
        C.due("now he gave", x.hearer(0, 2), 4);
        C.due("no COIN below 0", x.hearer(1, 2), 0);
        C.fine(x, "nobody has one who likes it", x.play(1), 0);
        C.due("he stays", x.hearer(1, 0), 0);
        C.due("the cup", x.told(7), 2);
        C.due("played", x.told(8), 3);
    }

    private static void cup() {
        C.sentence("the CUP holds 9,999, what is more is lost");
        UnseenRing x = Check.of("tune a;" + "hearer at 0 coins 99 likes a;".repeat(6));
        Check.days(x, "loop 99; play a; end;");
        for (int i = 0; i < 16; i++) {
            x.live(0);
            for (int h = 0; h < 6; h++) {
                x.give(h, i == 15 && h > 0 ? 0 : 99);
            }
        }
        C.fine(x, "16 times 594", x.told(7), 9504);
        for (int i = 0; i < 4; i++) {
            x.live(0);
            x.give(0, 99);
        }
        C.fine(x, "and 4 times 99", x.told(7), 9900);
        x.give(0, 98);
        x.live(0);
        C.fine(x, "and 98", x.told(7), 9998);
        x.mark();
        x.give(0, 1);
        C.fine(x, "one more", x.play(0), 1);
        C.fine(x, "is full", x.told(7), 9999);
        x.give(0, 1);
        C.fine(x, "one more", x.play(0), 1);
        C.fine(x, "is lost", x.told(7), 9999);
        C.fine(x, "he gave it", x.hearer(0, 2), 0);
        C.fine(x, "empty", x.empty(), 9999);
        C.fine(x, "empty", x.told(7), 0);
        x.undo();
        x.mark();
        for (int h = 0; h < 6; h++) {
            x.give(h, 1);
        }
        C.fine(x, "six more, those lost, too", x.play(0), 6);
        C.fine(x, "one of them is held", x.told(7), 9999);
        x.give(0, 3);
        C.sentence("TAKINGS: whatever the CUP holds");
        C.fine(x, "takings", x.takings(0, 20), 3);
        C.fine(x, "game", x.game(1), 1);
        C.sentence("lived 2: how many COINS came");
        C.fine(x, "live", x.live(0), 100);
        C.fine(x, "coins came", x.lived(2), 3);
        C.fine(x, "the cup", x.told(7), 9999);
        C.sentence("mean of what is in the CUP");
        x.give(0, 50);
        C.fraction(x, "mean", x.mean(0, 2), 9999, 1);
        x.undo();
        x.give(0, 99);
        C.fraction(x, "mean", x.mean(5, 1), 9999, 1);
        C.fine(x, "it stays", x.told(7), 9998);
    }

    private static void dogs() {
        C.sentence("A DOG is UP, if a HEARER is in its CELL or BESIDE");
        // the dog is in the middle of nine
        int[] up = {0, 1, 0, 1, 1, 1, 0, 1, 0};
        UnseenRing x = Check.of("square 3 by 3; dog at 4; hearer at 0;");
        for (int cell = 0; cell < 9; cell++) {
            x.send(0, cell);
            C.fine(x, "dog by one in " + cell, x.dog(0, 1), up[cell]);
            C.fine(x, "set by one in " + cell, x.told(10), up[cell]);
            C.fine(x, "cell " + cell, x.cell(cell, 2), up[cell]);
        }
        UnseenRing y = Check.of("dog at 0; dog at 0; dog at 15; dog at 1;");
        C.fine(y, "nobody", y.told(10), 0);
        C.fine(y, "cell tells of one who is not there", y.cell(0, 2), 1 + 2 + 8);
        C.fine(y, "come", y.come(4), 0);
        C.fine(y, "up", y.told(10), 1 + 2);
        C.fine(y, "cell is not by who is elsewhere", y.cell(15, 2), 4);
    }

    private static void throwsAndBrushes() {
        C.sentence("all HEARERS in it or BESIDE are SEEN, till all BRUSH it off");
        int[] hit = {-1, 1, -1, 1, 1, 1, -1, 1, -1};
        for (int cell = 0; cell < 9; cell++) {
            UnseenRing x = Check.of("square 3 by 3; hearer at 4;");
            C.due("throw at " + cell, x.throwAt(cell), hit[cell]);
            C.due("status", x.status(), hit[cell] == 1 ? 0 : 7);
            C.due("seen", x.told(9), hit[cell] == 1 ? 1 : 0);
            C.due("seen", x.hearer(0, 4), hit[cell] == 1 ? 1 : 0);
        }
        UnseenRing x = Check.of("hearer at 0; hearer at 0; hearer at 15; hearer at 5; hearer at 1; hearer at 4;");
        C.fine(x, "throw", x.throwAt(0), 1 + 2 + 16 + 32);
        C.fine(x, "seen", x.told(9), 51);
        C.fine(x, "a throw adds", x.throwAt(15), 4);
        C.fine(x, "seen", x.told(9), 55);
        C.fine(x, "a throw hits one who is seen, too", x.throwAt(15), 4);
        C.fine(x, "seen", x.told(9), 55);
        C.refused(x, "a throw at nobody", x.throwAt(12), 7);
        C.fine(x, "seen", x.told(9), 55);
        x.send(0, 12);
        C.fine(x, "who goes stays seen", x.hearer(0, 4), 1);
        C.fine(x, "brush", x.brush(), 5);
        C.fine(x, "seen", x.told(9), 0);
        C.refused(x, "brush again", x.brush(), 7);
    }

    private static void tells() {
        C.sentence("told: what 0 to 10 (1)");
        FULL.refused("told(-1)", 1, x -> x.told(-1));
        FULL.refused("told(11)", 1, x -> x.told(11));
        FULL.refused("told(LOW)", 1, x -> x.told(LOW));
        FULL.refused("told(HIGH)", 1, x -> x.told(HIGH));
        C.sentence("hearer: what 0 to 4 (1)");
        FULL.refused("hearer(-1, 0)", 1, x -> x.hearer(-1, 0));
        FULL.refused("hearer(3, 0)", 1, x -> x.hearer(3, 0));
        FULL.refused("hearer(0, -1)", 1, x -> x.hearer(0, -1));
        FULL.refused("hearer(0, 5)", 1, x -> x.hearer(0, 5));
        FULL.refused("hearer(LOW, HIGH)", 1, x -> x.hearer(LOW, HIGH));
        C.sentence("dog: what 0 to 1 (1)");
        FULL.refused("dog(-1, 0)", 1, x -> x.dog(-1, 0));
        FULL.refused("dog(2, 0)", 1, x -> x.dog(2, 0));
        FULL.refused("dog(0, -1)", 1, x -> x.dog(0, -1));
        FULL.refused("dog(0, 2)", 1, x -> x.dog(0, 2));
        C.sentence("cell: what 0 to 2 (1)");
        FULL.refused("cell(-1, 0)", 1, x -> x.cell(-1, 0));
        FULL.refused("cell(9, 0)", 1, x -> x.cell(9, 0));
        FULL.refused("cell(0, -1)", 1, x -> x.cell(0, -1));
        FULL.refused("cell(0, 3)", 1, x -> x.cell(0, 3));
        C.sentence("likers (1)");
        FULL.refused("likers(-1)", 1, x -> x.likers(-1));
        FULL.refused("likers(3)", 1, x -> x.likers(3));
        FULL.told("likers(0)", 3, x -> x.likers(0));
        FULL.told("likers(2)", 0, x -> x.likers(2));
        FULL.told("cell(8, 2)", 2, x -> x.cell(8, 2));
        tellsOfSix();
    }

    private static void tellsOfSix() {
        C.sentence("1 for HEARER 0 ..: the last is 32; 1 for TUNE 0 ..: the last is 32; 1 for DOG 0 ..: the last is 8");
        UnseenRing x = Check.of("tune a; tune b; tune c; tune d; tune e; tune f;" + "hearer at 0;".repeat(5)
                + "hearer at 15 likes f;" + "dog at 0;".repeat(3) + "dog at 15;");
        C.fine(x, "likes", x.hearer(5, 1), 32);
        C.fine(x, "likers", x.likers(5), 32);
        C.fine(x, "likers of none", x.likers(4), 0);
        C.fine(x, "in 15", x.cell(15, 0), 32);
        C.fine(x, "in 0", x.cell(0, 0), 31);
        C.fine(x, "in 7", x.cell(7, 0), 0);
        C.fine(x, "a throw", x.throwAt(15), 32);
        C.fine(x, "seen", x.told(9), 32);
        C.fine(x, "up", x.told(10), 15);
        C.fine(x, "up by 15", x.cell(15, 2), 8);
        C.fine(x, "all", x.throwAt(0), 31);
        C.fine(x, "seen", x.told(9), 63);
        C.fine(x, "brush", x.brush(), 6);
    }

    private static void playEdges() {
        C.sentence("play (1; 7: nobody LIKES it)");
        FULL.refused("play(-1)", 1, x -> x.play(-1));
        FULL.refused("play(3)", 1, x -> x.play(3));
        FULL.refused("play(LOW)", 1, x -> x.play(LOW));
        FULL.refused("play(2)", 7, x -> x.play(2));
        UnseenRing x = Check.of(NINE);
        C.fine(x, "a tune that one likes", x.play(1), 0);
        C.fine(x, "counts", x.told(8), 1);
        UnseenRing y = Check.of("tune a;");
        C.refused(y, "nobody is there", y.play(0), 7);
        C.fine(y, "nothing was played", y.told(8), 0);
    }

    private static void moves() {
        C.sentence("grind (1; 7: it is there)");
        FULL.refused("grind(-1)", 1, x -> x.grind(-1));
        FULL.refused("grind(9)", 1, x -> x.grind(9));
        FULL.refused("grind(3)", 7, x -> x.grind(3));
        UnseenRing x = Check.of(NINE);
        C.fine(x, "the last cell", x.grind(8), 2);
        C.fine(x, "the first cell", x.grind(0), 4);
        C.fine(x, "it is there", x.told(6), 0);
        C.fine(x, "nobody went", x.hearer(2, 0), 8);
        C.sentence("throwAt (1; 7: nobody)");
        FULL.refused("throwAt(-1)", 1, x2 -> x2.throwAt(-1));
        FULL.refused("throwAt(9)", 1, x2 -> x2.throwAt(9));
        FULL.behind(x2 -> {
            x2.send(0, 0);
            x2.send(1, 0);
            x2.send(2, 0);
        }).refused("throwAt(8)", 7, x2 -> x2.throwAt(8));
        C.sentence("brush (7: nobody)");
        FULL.behind(UnseenRing::brush).refused("brush()", 7, UnseenRing::brush);
        C.sentence("send (1; 7: he is there)");
        FULL.refused("send(-1, 0)", 1, x2 -> x2.send(-1, 0));
        FULL.refused("send(3, 0)", 1, x2 -> x2.send(3, 0));
        FULL.refused("send(0, -1)", 1, x2 -> x2.send(0, -1));
        FULL.refused("send(0, 9)", 1, x2 -> x2.send(0, 9));
        FULL.refused("send(2, 6)", 7, x2 -> x2.send(2, 6));
        C.fine(x, "send to the last", x.send(0, 8), 4);
        C.fine(x, "send to the first", x.send(0, 0), 4);
        C.fine(x, "the last hearer", x.send(2, 7), 1);
        C.fine(x, "he is there", x.hearer(2, 0), 7);
    }

    private static void gives() {
        C.sentence("give: COINS of a HEARER (0 to 99): how many he had (1)");
        FULL.refused("give(-1, 0)", 1, x -> x.give(-1, 0));
        FULL.refused("give(3, 0)", 1, x -> x.give(3, 0));
        FULL.refused("give(0, -1)", 1, x -> x.give(0, -1));
        FULL.refused("give(0, 100)", 1, x -> x.give(0, 100));
        FULL.refused("give(0, HIGH)", 1, x -> x.give(0, HIGH));
        UnseenRing x = Check.of(NINE);
        C.fine(x, "give 0", x.give(2, 0), 3);
        C.fine(x, "give 99", x.give(2, 99), 0);
        C.fine(x, "the same again", x.give(2, 99), 99);
        C.fine(x, "coins", x.hearer(2, 2), 99);
        C.fine(x, "of him alone", x.hearer(1, 2), 1);
        C.fine(x, "the cup has none of it", x.told(7), 0);
    }

    private static void teaches() {
        C.sentence("teach (1; 7: it is so)");
        FULL.refusedFlag("teach(-1, 0, true)", 1, x -> x.teach(-1, 0, true));
        FULL.refusedFlag("teach(3, 0, true)", 1, x -> x.teach(3, 0, true));
        FULL.refusedFlag("teach(0, -1, false)", 1, x -> x.teach(0, -1, false));
        FULL.refusedFlag("teach(0, 3, false)", 1, x -> x.teach(0, 3, false));
        FULL.refusedFlag("teach(0, 32, true)", 1, x -> x.teach(0, 32, true));
        FULL.refusedFlag("teach(0, 0, true)", 7, x -> x.teach(0, 0, true));
        FULL.refusedFlag("teach(0, 2, false)", 7, x -> x.teach(0, 2, false));
        UnseenRing x = Check.of(NINE);
        C.fine(x, "teach", x.teach(2, 2, true));
        C.fine(x, "likes", x.hearer(2, 1), 4);
        C.refused(x, "teach again", x.teach(2, 2, true), 7);
        C.fine(x, "teach not", x.teach(2, 2, false));
        C.fine(x, "likes", x.hearer(2, 1), 0);
        C.refused(x, "teach not again", x.teach(2, 2, false), 7);
        C.fine(x, "teach not", x.teach(0, 0, false));
        C.fine(x, "the others stay", x.hearer(0, 1), 2);
        C.fine(x, "of him alone", x.hearer(1, 1), 1);
    }

    private static void comes() {
        C.sentence("come: COINS 3, who LIKES nothing: his number (1; 4: a seventh)");
        FULL.refused("come(-1)", 1, x -> x.come(-1));
        FULL.refused("come(9)", 1, x -> x.come(9));
        UnseenRing x = Check.of("square 3 by 3; tune a;" + "hearer at 0 coins 50 likes a;".repeat(3));
        x.throwAt(0);
        for (int number = 3; number < 6; number++) {
            C.fine(x, "come", x.come(number == 5 ? 8 : 0), number);
            C.fine(x, "coins", x.hearer(number, 2), 3);
            C.fine(x, "likes", x.hearer(number, 1), 0);
            C.fine(x, "seen", x.hearer(number, 4), 0);
        }
        C.fine(x, "cell", x.hearer(5, 0), 8);
        C.fine(x, "hearers", x.told(3), 6);
        C.refused(x, "a seventh", x.come(0), 4);
        C.refused(x, "a seventh where no cell is", x.come(9), 1);
        C.fine(x, "hearers", x.told(3), 6);
        Twin six = new Twin(C, y -> Check.square(y, "square 2 by 2;" + "hearer at 1;".repeat(6)));
        six.refused("a seventh", 4, y -> y.come(0));
        six.refused("a seventh", 4, y -> y.come(3));
        six.refused("a seventh where no cell is", 1, y -> y.come(4));
        UnseenRing z = new UnseenRing();
        C.fine(z, "the first", z.come(15), 0);
        z.mark();
        z.come(3);
        z.give(1, 88);
        z.undo();
        C.fine(z, "one who came where one was taken back", z.come(2), 1);
        C.fine(z, "has 3", z.hearer(1, 2), 3);
    }

    private static void empties() {
        C.sentence("empty (7: nothing)");
        FULL.behind(UnseenRing::empty).refused("empty()", 7, UnseenRing::empty);
        UnseenRing x = Check.of(NINE);
        C.refused(x, "an empty cup", x.empty(), 7);
        x.play(0);
        C.fine(x, "one coin", x.empty(), 1);
        C.fine(x, "the cup", x.told(7), 0);
        C.refused(x, "an empty cup", x.empty(), 7);
    }

    private static void rules() {
        C.sentence("rule: ODDS from now on (0 to 16) (1)");
        FULL.refusedFlag("rule(-1)", 1, x -> x.rule(-1));
        FULL.refusedFlag("rule(17)", 1, x -> x.rule(17));
        FULL.refusedFlag("rule(LOW)", 1, x -> x.rule(LOW));
        UnseenRing x = Check.of(NINE);
        for (int odds = 0; odds <= 16; odds++) {
            C.fine(x, "rule", x.rule(odds));
            C.fine(x, "odds", x.told(5), odds);
            C.fine(x, "the same again", x.rule(odds));
        }
    }
}
