/** Promise by promise: ordinary inputs, the edges that the document names, wrong inputs. */
public final class PromiseTest {
    private static final Check C = new Check("PromiseTest");
    private static final int LOW = Integer.MIN_VALUE;
    private static final int HIGH = Integer.MAX_VALUE;

    /**
     * 0 1 2     the organ in 4, hearer 0 in 0, 1 in 4, 2 in 8, dogs in 1 and 8
     * 3 4 5
     * 6 7 8
     */
    private static final String BASE = "square 3 by 3; odds 4; organ 4; tune a; tune b; tune c; "
            + "hearer at 0 coins 2 likes a b; hearer at 4 coins 1 likes a; hearer at 8; dog at 1; dog at 8;";

    private static UnseenRing base() {
        return Check.of(BASE);
    }

    public static void main(String[] args) {
        newObject();
        trays();
        pours();
        texts();
        tells();
        plays();
        otherDeeds();
        takings();
        gathers();
        dogs();
        covers();
        likings();
        knowing();
        games();
        odds();
        lives();
        moreLives();
        draws();
        means();
        marks();
        C.end();
    }

    private static void newObject() {
        UnseenRing x = new UnseenRing();
        C.due("status", x.status(), 0);
        C.due("top", x.top(), 0);
        C.due("bottom", x.bottom(), 1);
        C.due("fault", x.fault(0), -1);
        int[] told = {4, 4, 0, 0, 0, 8, 0, 0, 0, 0, 0};
        for (int i = 0; i < told.length; i++) {
            C.fine(x, "told " + i, x.told(i), told[i]);
        }
        for (int i = 0; i < 4; i++) {
            C.refused(x, "read", x.read(i, 0), 2);
        }
        C.refused(x, "undo", x.undo(), 6);
        C.refused(x, "live", x.live(0), 6);
        C.refused(x, "lived", x.lived(0), 6);
        C.refused(x, "square(1)", x.square(1), 1);
        C.refused(x, "share", x.share(0), 1);
        C.refused(x, "bestPitch", x.bestPitch(0, 0), 1);
        C.due("status has none", x.status(), 1);
        C.due("top has none", x.top(), 0);
        C.due("status", x.status(), 1);
        C.due("bottom has none", x.bottom(), 1);
        C.due("fault has none", x.fault(5), -1);
        C.due("status", x.status(), 1);
    }

    private static void trays() {
        UnseenRing x = new UnseenRing();
        int[][] wrong = {{-1, 0, 0}, {4, 0, 0}, {0, -1, 0}, {0, 4, 0}, {0, 0, -1}, {0, 0, 61}, {LOW, LOW, LOW}, {HIGH, HIGH, HIGH}};
        for (int[] w : wrong) {
            C.refused(x, "tray", x.tray(w[0], w[1], w[2]), 1);
        }
        C.refused(x, "read", x.read(0, 0), 2);
        long number = 0x123456789abcdef0L;
        long[] cut = {(byte) number, (short) number, (int) number, number};
        for (int sort = 0; sort < 4; sort++) {
            C.fine(x, "tray", x.tray(sort, sort, 60));
            C.fine(x, "read", x.read(sort, 59), 0);
            C.fine(x, "write", x.write(sort, 59, number));
            C.fine(x, "read", x.read(sort, 59), cut[sort]);
            C.fine(x, "write", x.write(sort, 0, -1));
            C.fine(x, "read", x.read(sort, 0), -1);
            C.fine(x, "write", x.write(sort, 1, 255));
            C.fine(x, "read", x.read(sort, 1), sort == 0 ? -1 : 255);
            C.fine(x, "write", x.write(sort, 1, Long.MIN_VALUE));
            C.fine(x, "read", x.read(sort, 1), sort == 3 ? Long.MIN_VALUE : 0);
            C.refused(x, "write", x.write(sort, 60, 1), 3);
            C.refused(x, "write", x.write(sort, -1, 1), 3);
            C.refused(x, "read", x.read(sort, HIGH), 3);
            C.refused(x, "read", x.read(sort, LOW), 3);
        }
        C.refused(x, "write", x.write(4, 0, 1), 1);
        C.refused(x, "read", x.read(-1, 0), 1);
        C.fine(x, "tray again", x.tray(3, 1, 1));
        C.fine(x, "read", x.read(3, 0), 0);
        C.refused(x, "read", x.read(3, 1), 3);
        C.fine(x, "tray longer", x.tray(3, 3, 60));
        C.fine(x, "read", x.read(3, 59), 0);
        C.fine(x, "empty tray", x.tray(2, 2, 0));
        C.refused(x, "read", x.read(2, 0), 3);
        UnseenRing y = new UnseenRing();
        C.refused(y, "write to a missing one", y.write(0, -1, 1), 2);
    }

    private static void pours() {
        UnseenRing x = new UnseenRing();
        C.refused(x, "pour", x.pour(0, 0, 0, 0, -1), 1);
        C.refused(x, "pour", x.pour(0, -1, 0, 0, 0), 1);
        C.refused(x, "pour", x.pour(0, 0, 0, -1, 0), 1);
        C.refused(x, "pour", x.pour(4, 0, 0, 0, 0), 1);
        C.refused(x, "pour", x.pour(0, 0, 4, 0, 0), 1);
        C.refused(x, "pour", x.pour(0, 0, 1, 0, 0), 2);
        x.tray(0, 1, 5);
        C.refused(x, "pour", x.pour(0, 9, 1, 0, 0), 2);
        C.refused(x, "pour", x.pour(1, 0, 0, 0, 0), 2);
        x.tray(1, 2, 4);
        C.refused(x, "pour", x.pour(0, 9, 1, 0, 9), 8);
        x.tray(1, 1, 4);
        for (int i = 0; i < 5; i++) {
            x.write(0, i, 10 + i);
        }
        C.refused(x, "pour", x.pour(0, 0, 1, 0, 5), 3);
        C.refused(x, "pour", x.pour(0, 3, 1, 0, 3), 3);
        C.refused(x, "pour", x.pour(0, 0, 1, 2, 3), 3);
        C.refused(x, "pour", x.pour(0, 6, 1, 0, 0), 3);
        C.refused(x, "pour", x.pour(0, 0, 1, 5, 0), 3);
        C.refused(x, "pour", x.pour(0, HIGH, 1, 0, HIGH), 3);
        C.refused(x, "pour", x.pour(0, 0, 1, HIGH, HIGH), 3);
        C.fine(x, "pour", x.pour(0, 5, 1, 4, 0));
        C.fine(x, "pour", x.pour(0, 2, 1, 1, 3));
        C.fine(x, "read", x.read(1, 0), 0);
        C.fine(x, "read", x.read(1, 1), 12);
        C.fine(x, "read", x.read(1, 3), 14);
        C.fine(x, "pour on itself", x.pour(0, 0, 0, 1, 4));
        int[] up = {10, 10, 11, 12, 13};
        for (int i = 0; i < 5; i++) {
            C.fine(x, "read", x.read(0, i), up[i]);
        }
        C.fine(x, "pour on itself", x.pour(0, 2, 0, 0, 3));
        int[] down = {11, 12, 13, 12, 13};
        for (int i = 0; i < 5; i++) {
            C.fine(x, "read", x.read(0, i), down[i]);
        }
    }

    private static void texts() {
        UnseenRing x = base();
        C.due("hearers", x.told(3), 3);
        x.play(0);
        x.throwAt(0);
        Check.days(x, "any;");
        C.refused(x, "square with a fault", Check.square(x, "odds 1; odds 2;"), 9);
        C.fine(x, "odds stay", x.told(5), 4);
        C.fine(x, "cup stays", x.told(7), 1);
        C.fine(x, "seen stay", x.told(9), 1);
        C.refused(x, "days with a fault", Check.days(x, "any; play z;"), 9);
        C.fine(x, "the days stay", x.live(0), 1);
        C.fine(x, "square", Check.square(x, "hearer at 3;"), 1);
        int[] told = {4, 4, 0, 1, 0, 8, 0, 0, 0, 0, 0};
        for (int i = 0; i < told.length; i++) {
            C.fine(x, "told " + i, x.told(i), told[i]);
        }
        C.refused(x, "no days", x.live(0), 6);
        C.fine(x, "lived stays", x.lived(4), 0);
        C.due("days", Check.days(x, "send 0 1; loop 2; end;"), 2);
        C.due("no days", Check.days(x, ""), 0);
        C.fine(x, "days without a step", x.live(0), 0);
    }

    private static void tells() {
        UnseenRing x = base();
        int[] told = {3, 3, 3, 3, 2, 4, 4, 0, 0, 0, 3};
        for (int i = 0; i < told.length; i++) {
            C.fine(x, "told " + i, x.told(i), told[i]);
        }
        C.refused(x, "told", x.told(11), 1);
        C.refused(x, "told", x.told(-1), 1);
        int[][] hearers = {{0, 3, 2, 2, 0}, {4, 1, 1, 0, 0}, {8, 0, 3, 2, 0}};
        for (int h = 0; h < 3; h++) {
            for (int what = 0; what < 5; what++) {
                C.fine(x, "hearer " + h + " " + what, x.hearer(h, what), hearers[h][what]);
            }
        }
        C.refused(x, "hearer", x.hearer(3, 0), 1);
        C.refused(x, "hearer", x.hearer(-1, 0), 1);
        C.refused(x, "hearer", x.hearer(0, 5), 1);
        C.refused(x, "hearer", x.hearer(0, -1), 1);
        C.fine(x, "dog", x.dog(0, 0), 1);
        C.fine(x, "dog", x.dog(1, 0), 8);
        C.fine(x, "dog", x.dog(1, 1), 1);
        C.refused(x, "dog", x.dog(2, 0), 1);
        C.refused(x, "dog", x.dog(0, 2), 1);
        C.refused(x, "dog", x.dog(LOW, 0), 1);
        C.refused(x, "dog", x.dog(0, -1), 1);
        C.fine(x, "send", x.send(2, 6), 2);
        C.fine(x, "dog", x.dog(1, 1), 0);
        C.fine(x, "told", x.told(10), 1);
        C.fine(x, "cell", x.cell(6, 0), 4);
        C.fine(x, "cell", x.cell(7, 0), 0);
        C.fine(x, "cell", x.cell(0, 1), 2);
        C.fine(x, "cell", x.cell(4, 1), 0);
        int[] ups = {1, 1, 1, 0, 1, 2, 0, 2, 2};
        for (int i = 0; i < 9; i++) {
            C.fine(x, "cell " + i, x.cell(i, 2), ups[i]);
        }
        C.refused(x, "cell", x.cell(9, 0), 1);
        C.refused(x, "cell", x.cell(-1, 0), 1);
        C.refused(x, "cell", x.cell(0, 3), 1);
        C.refused(x, "cell", x.cell(0, -1), 1);
        int[] likers = {3, 1, 0};
        for (int i = 0; i < 3; i++) {
            C.fine(x, "likers", x.likers(i), likers[i]);
        }
        C.refused(x, "likers", x.likers(3), 1);
        C.refused(x, "likers", x.likers(-1), 1);
    }

    private static void plays() {
        UnseenRing x = base();
        C.fine(x, "play", x.play(0), 1);
        C.due("as many columns as rows: along the row", x.hearer(0, 0), 1);
        C.due("coins", x.hearer(1, 2), 0);
        C.due("the third stays", x.hearer(2, 0), 8);
        C.fine(x, "play", x.play(0), 0);
        C.due("then along the column", x.hearer(0, 0), 4);
        C.fine(x, "play", x.play(1), 1);
        C.fine(x, "play", x.play(0), 1);
        C.fine(x, "play", x.play(0), 0);
        C.due("cup", x.told(7), 3);
        C.due("played", x.told(8), 5);
        C.refused(x, "play", x.play(2), 7);
        C.refused(x, "play", x.play(3), 1);
        C.refused(x, "play", x.play(-1), 1);
        C.due("played", x.told(8), 5);
        UnseenRing y = Check.of("square 4 by 5; tune a; organ 6; hearer at 16 likes a;");
        // 16 is in row 4, column 0; 6 in row 1, column 2: first upwards, then right and up in turn
        int[] way = {12, 13, 9, 10, 6};
        for (int i = 0; i < way.length; i++) {
            C.fine(y, "play", y.play(0), 0);
            C.due("way " + i, y.hearer(0, 0), way[i]);
        }
        UnseenRing z = Check.of("tune a; hearer at 0 coins 99 likes a;hearer at 0 coins 99 likes a;hearer at 0 coins 99 likes a;"
                + "hearer at 0 coins 99 likes a;hearer at 0 coins 99 likes a;hearer at 0 coins 99 likes a;");
        Check.days(z, "loop 99; play a; end;");
        for (int i = 0; i < 16; i++) {
            C.fine(z, "live", z.live(0), 100);
            C.due("coins came", z.lived(2), 594);
            for (int h = 0; h < 6; h++) {
                z.give(h, 99);
            }
        }
        C.due("cup", z.told(7), 9504);
        C.fine(z, "live", z.live(0), 100);
        C.due("those lost come, too", z.lived(2), 594);
        C.due("a full cup", z.told(7), 9999);
        z.give(3, 1);
        C.fine(z, "play", z.play(0), 1);
        C.due("a full cup", z.told(7), 9999);
        C.due("the coin is gone", z.hearer(3, 2), 0);
        C.fine(z, "takings", z.takings(0, 5), 0);
        z.give(3, 2);
        C.fine(z, "takings with a full cup", z.takings(0, 5), 2);
        C.fine(z, "game with a full cup", z.game(1), 1);
    }

    private static void otherDeeds() {
        UnseenRing x = base();
        C.refused(x, "grind", x.grind(4), 7);
        C.refused(x, "grind", x.grind(9), 1);
        C.refused(x, "grind", x.grind(-1), 1);
        C.fine(x, "grind", x.grind(2), 2);
        C.due("organ", x.told(6), 2);
        C.refused(x, "brush", x.brush(), 7);
        C.refused(x, "throwAt", x.throwAt(6), 7);
        C.refused(x, "throwAt", x.throwAt(9), 1);
        C.refused(x, "throwAt", x.throwAt(-1), 1);
        C.fine(x, "throwAt", x.throwAt(1), 3);
        C.fine(x, "throwAt", x.throwAt(3), 3);
        C.due("seen", x.told(9), 3);
        C.due("seen", x.hearer(1, 4), 1);
        C.due("not seen", x.hearer(2, 4), 0);
        C.fine(x, "throwAt", x.throwAt(7), 6);
        C.due("seen", x.told(9), 7);
        C.fine(x, "brush", x.brush(), 3);
        C.due("seen", x.told(9), 0);
        C.refused(x, "send", x.send(0, 0), 7);
        C.refused(x, "send", x.send(3, 0), 1);
        C.refused(x, "send", x.send(-1, 0), 1);
        C.refused(x, "send", x.send(0, 9), 1);
        C.fine(x, "send", x.send(0, 8), 4);
        C.due("cell", x.cell(8, 0), 5);
        C.refused(x, "give", x.give(0, 100), 1);
        C.refused(x, "give", x.give(0, -1), 1);
        C.refused(x, "give", x.give(3, 0), 1);
        C.fine(x, "give", x.give(0, 99), 2);
        C.fine(x, "give", x.give(0, 0), 99);
        C.refused(x, "teach", x.teach(0, 0, true), 7);
        C.refused(x, "teach", x.teach(0, 2, false), 7);
        C.refused(x, "teach", x.teach(3, 0, true), 1);
        C.refused(x, "teach", x.teach(0, 3, true), 1);
        C.refused(x, "teach", x.teach(0, -1, true), 1);
        C.fine(x, "teach", x.teach(0, 2, true));
        C.fine(x, "teach", x.teach(0, 0, false));
        C.due("likes", x.hearer(0, 1), 6);
        C.refused(x, "come", x.come(9), 1);
        C.refused(x, "come", x.come(-1), 1);
        C.fine(x, "throwAt", x.throwAt(8), 5);
        C.fine(x, "come", x.come(8), 3);
        C.due("who comes is not seen", x.told(9), 5);
        C.due("coins", x.hearer(3, 2), 3);
        C.due("likes", x.hearer(3, 1), 0);
        C.fine(x, "come", x.come(0), 4);
        C.fine(x, "come", x.come(0), 5);
        C.refused(x, "come", x.come(0), 4);
        C.refused(x, "come", x.come(9), 1);
        C.refused(x, "empty", x.empty(), 7);
        x.grind(4);
        C.fine(x, "play", x.play(0), 1);
        C.fine(x, "empty", x.empty(), 1);
        C.refused(x, "empty", x.empty(), 7);
        C.refused(x, "rule", x.rule(17), 1);
        C.refused(x, "rule", x.rule(-1), 1);
        C.fine(x, "rule", x.rule(0));
        C.due("odds", x.told(5), 0);
        C.fine(x, "rule", x.rule(16));
        C.due("odds", x.told(5), 16);
    }

    private static void takings() {
        UnseenRing x = base();
        int[] a = {0, 1, 1, 2, 3, 3};
        int[] b = {0, 0, 0, 1, 2, 2};
        for (int n = 0; n < 6; n++) {
            C.fine(x, "takings", x.takings(0, n), a[n]);
            C.fine(x, "takings", x.takings(1, n), b[n]);
            C.fine(x, "takings", x.takings(2, n), 0);
            C.fine(x, "pitch", x.pitch(4, 0, n), a[n]);
        }
        C.fine(x, "takings", x.takings(0, 20), 3);
        C.refused(x, "takings", x.takings(0, 21), 1);
        C.refused(x, "takings", x.takings(0, -1), 1);
        C.refused(x, "takings", x.takings(3, 1), 1);
        C.refused(x, "takings", x.takings(-1, 1), 1);
        C.fine(x, "pitch", x.pitch(0, 0, 2), 2);
        C.fine(x, "pitch", x.pitch(0, 0, 3), 3);
        C.fine(x, "pitch", x.pitch(1, 0, 2), 2);
        C.fine(x, "pitch", x.pitch(8, 0, 3), 1);
        C.refused(x, "pitch", x.pitch(9, 0, 3), 1);
        C.refused(x, "pitch", x.pitch(-1, 0, 3), 1);
        C.refused(x, "pitch", x.pitch(0, 3, 3), 1);
        C.refused(x, "pitch", x.pitch(0, 0, 21), 1);
        C.fine(x, "bestPitch", x.bestPitch(0, 1), 0);
        C.fine(x, "bestPitch", x.bestPitch(1, 20), 0);
        C.fine(x, "bestPitch", x.bestPitch(2, 3), 0);
        x.give(0, 1);
        C.fine(x, "bestPitch", x.bestPitch(0, 2), 1);
        C.fine(x, "bestPitch", x.bestPitch(0, 0), 0);
        C.refused(x, "bestPitch", x.bestPitch(3, 0), 1);
        C.refused(x, "bestPitch", x.bestPitch(0, 21), 1);
        C.refused(x, "bestPitch", x.bestPitch(0, -1), 1);
        C.fine(x, "soon", x.soon(0), 2);
        C.fine(x, "soon", x.soon(1), 0);
        C.refused(x, "soon", x.soon(2), 6);
        x.send(2, 4);
        C.fine(x, "soon", x.soon(2), 0);
        C.refused(x, "soon", x.soon(3), 1);
        C.refused(x, "soon", x.soon(-1), 1);
        C.due("nothing changed", x.hearer(0, 0), 0);
        C.due("nothing played", x.told(8), 0);
        C.due("nothing in the cup", x.told(7), 0);
    }

    private static void gathers() {
        UnseenRing x = Check.of("square 5 by 5; organ 0; tune a; tune b; tune c; hearer at 4 likes b c; "
                + "hearer at 15 likes a b; hearer at 2 likes c; hearer at 24; hearer at 0;");
        // FAR 4, 3, 2: c twice, b twice, and a or b do for all
        C.fine(x, "gather", x.gather(7), 5);
        int[] row = {0, 1, 1, 2, 2};
        for (int k = 0; k < 5; k++) {
            C.fine(x, "gatherAt " + k, x.gatherAt(7, k), row[k]);
        }
        C.refused(x, "gatherAt", x.gatherAt(7, 5), 6);
        C.refused(x, "gatherAt", x.gatherAt(7, HIGH), 6);
        C.refused(x, "gatherAt", x.gatherAt(7, -1), 1);
        C.fine(x, "gather", x.gather(3), 4);
        C.fine(x, "gatherAt", x.gatherAt(3, 0), 1);
        C.fine(x, "gatherAt", x.gatherAt(3, 3), 1);
        C.fine(x, "gather", x.gather(2), 3);
        C.fine(x, "gatherAt", x.gatherAt(2, 2), 0);
        C.fine(x, "gather", x.gather(16), 0);
        C.refused(x, "gatherAt", x.gatherAt(16, 0), 6);
        C.refused(x, "gather", x.gather(8), 6);
        C.refused(x, "gatherAt", x.gatherAt(9, 0), 6);
        C.refused(x, "gather", x.gather(0), 1);
        C.refused(x, "gather", x.gather(15), 1);
        C.refused(x, "gather", x.gather(32), 1);
        C.refused(x, "gather", x.gather(-1), 1);
        C.refused(x, "gatherAt", x.gatherAt(0, 0), 1);
        C.refused(x, "gatherAt", x.gatherAt(15, 0), 1);
        UnseenRing y = Check.of("square 5 by 5; tune a; tune b; tune c; hearer at 24 likes a; hearer at 24 likes b; hearer at 24 likes c;");
        C.fine(y, "gather", y.gather(7), 24);
        C.fine(y, "gatherAt", y.gatherAt(7, 7), 0);
        C.fine(y, "gatherAt", y.gatherAt(7, 8), 1);
        C.fine(y, "gatherAt", y.gatherAt(7, 23), 2);
    }

    private static void dogs() {
        UnseenRing x = base();
        // dog 0 by 0 1 2 4, dog 1 by 5 7 8, none by 3 6
        C.fine(x, "explain", x.explain(0), 0);
        C.fine(x, "explain", x.explain(1), 1);
        C.fine(x, "explain", x.explain(2), 1);
        C.fine(x, "explain", x.explain(3), 2);
        C.refused(x, "explain", x.explain(4), 1);
        C.refused(x, "explain", x.explain(-1), 1);
        C.fine(x, "placings", x.placings(0, 0), 1);
        C.fine(x, "placings", x.placings(1, 0), 0);
        C.fine(x, "placings", x.placings(0, 1), 2);
        C.fine(x, "placings", x.placings(0, 2), 1);
        C.fine(x, "placings", x.placings(0, 3), 0);
        C.fine(x, "placings", x.placings(1, 2), 6 + 8);
        C.fine(x, "placings", x.placings(3, 2), 12);
        C.fine(x, "placings", x.placings(3, 4), 126 - 15 - 5);
        C.refused(x, "placings", x.placings(4, 1), 1);
        C.refused(x, "placings", x.placings(-1, 1), 1);
        C.refused(x, "placings", x.placings(0, 5), 1);
        C.refused(x, "placings", x.placings(0, -1), 1);
        C.fraction(x, "oddsThat", x.oddsThat(3, 2, 0), 1, 4);
        C.fraction(x, "oddsThat", x.oddsThat(3, 2, 8), 1, 3);
        C.fraction(x, "oddsThat", x.oddsThat(3, 2, 3), 0, 1);
        C.fraction(x, "oddsThat", x.oddsThat(1, 2, 3), 2, 7);
        C.fraction(x, "oddsThat", x.oddsThat(0, 2, 6), 1, 1);
        C.refused(x, "oddsThat", x.oddsThat(0, 3, 6), 6);
        C.due("the fraction stays", x.top(), 1);
        C.refused(x, "oddsThat", x.oddsThat(0, 3, 9), 1);
        C.refused(x, "oddsThat", x.oddsThat(0, 5, 0), 1);
        C.refused(x, "oddsThat", x.oddsThat(4, 2, 0), 1);
        C.refused(x, "oddsThat", x.oddsThat(0, 0, -1), 1);
        C.fine(x, "aim", x.aim(1, 1), 1);
        C.fine(x, "aim", x.aim(2, 1), 8);
        C.fine(x, "aim", x.aim(0, 1), 3);
        C.fine(x, "aim", x.aim(0, 0), 0);
        C.refused(x, "aim", x.aim(1, 0), 6);
        C.refused(x, "aim", x.aim(4, 1), 1);
        C.refused(x, "aim", x.aim(0, 5), 1);
        UnseenRing y = Check.of("square 3 by 1; dog at 0; dog at 1; dog at 2; dog at 1;");
        // 0: dogs 0 1 3; 1: all; 2: dogs 1 2 3
        C.refused(y, "explain", y.explain(1), 6);
        C.fine(y, "explain", y.explain(11), 1);
        C.fine(y, "explain", y.explain(15), 1);
        C.fine(y, "placings", y.placings(15, 2), 3);
        C.fine(y, "placings", y.placings(15, 4), 0);
        C.refused(y, "explain", y.explain(16), 1);
        UnseenRing z = Check.of("square 5 by 5; dog at 0; dog at 4; dog at 20; dog at 24;");
        C.fine(z, "explain", z.explain(15), 4);
        C.fine(z, "placings", z.placings(15, 4), 81);
        C.fine(z, "placings", z.placings(15, 3), 0);
        C.fine(z, "placings", z.placings(0, 4), 715);
    }

    private static void covers() {
        UnseenRing x = base();
        C.refused(x, "cover", x.cover(0, 0), 2);
        C.refused(x, "cover", x.cover(4, 0), 1);
        C.refused(x, "cover", x.cover(-1, 0), 1);
        C.refused(x, "cover", x.cover(0, 9), 1);
        C.refused(x, "cover", x.cover(0, -1), 1);
        C.refused(x, "coverAt", x.coverAt(0, 0, 0), 2);
        C.refused(x, "coverAt", x.coverAt(0, 0, -1), 1);
        x.tray(0, 0, 9);
        for (int i = 0; i < 9; i++) {
            x.write(0, i, i);
        }
        // all but 8 of nine CELLS: no THROW hits more than five, and no two hit these
        C.fine(x, "cover", x.cover(0, 8), 3);
        C.fine(x, "cover", x.cover(0, 0), 0);
        C.refused(x, "coverAt", x.coverAt(0, 0, 0), 6);
        C.fine(x, "cover", x.cover(0, 1), 1);
        C.fine(x, "coverAt", x.coverAt(0, 1, 0), 0);
        C.fine(x, "cover", x.cover(0, 3), 1);
        C.fine(x, "coverAt", x.coverAt(0, 3, 0), 1);
        C.fine(x, "cover", x.cover(0, 4), 2);
        C.fine(x, "coverAt", x.coverAt(0, 4, 0), 0);
        C.fine(x, "coverAt", x.coverAt(0, 4, 1), 1);
        C.refused(x, "coverAt", x.coverAt(0, 4, 2), 6);
        C.refused(x, "coverAt", x.coverAt(0, 4, HIGH), 6);
        x.write(0, 8, 9);
        C.fine(x, "a number behind the first n does not count", x.cover(0, 8), 3);
        x.write(0, 7, 9);
        C.refused(x, "cover", x.cover(0, 8), 5);
        C.refused(x, "coverAt", x.coverAt(0, 8, 0), 5);
        C.fine(x, "cover", x.cover(0, 7), 2);
        x.tray(1, 3, 2);
        C.refused(x, "cover", x.cover(1, 3), 3);
        C.refused(x, "coverAt", x.coverAt(1, 3, 0), 3);
        x.write(1, 1, 1L << 32);
        C.refused(x, "cover", x.cover(1, 2), 5);
        x.write(1, 1, -1);
        C.refused(x, "cover", x.cover(1, 2), 5);
        x.write(1, 1, 0);
        C.fine(x, "one cell twice", x.cover(1, 2), 1);
    }

    private static void likings() {
        UnseenRing x = base();
        C.refused(x, "fits", x.fits(0, 0, 0), 2);
        C.refused(x, "fits", x.fits(3, 0, 0), 1);
        C.refused(x, "fits", x.fits(0, 4, 0), 1);
        C.refused(x, "fits", x.fits(0, 0, 21), 1);
        C.refused(x, "fits", x.fits(0, 0, -1), 1);
        C.refused(x, "sure", x.sure(0, 0, 0), 2);
        C.refused(x, "sure", x.sure(-1, 0, 0), 1);
        x.tray(0, 1, 40);
        C.fine(x, "fits", x.fits(0, 0, 0), 8);
        C.fine(x, "sure", x.sure(0, 0, 0), 0);
        // hearer 0 is FAR by 2: TUNE 0 brought him to 1, TUNE 1 left him there, TUNE 0 to 0
        int[] twos = {0, 1, 1, 1, 0, 0, 2, 0};
        for (int i = 0; i < twos.length; i++) {
            x.write(0, i, twos[i]);
        }
        C.fine(x, "fits", x.fits(0, 0, 1), 4);
        C.fine(x, "sure", x.sure(0, 0, 1), 1);
        C.fine(x, "fits", x.fits(0, 0, 2), 2);
        C.fine(x, "fits", x.fits(0, 0, 3), 2);
        C.fine(x, "behind 0 he stays at 0", x.fits(0, 0, 4), 2);
        C.fine(x, "sure", x.sure(0, 0, 4), 1);
        C.fine(x, "none fit", x.fits(1, 0, 1), 0);
        C.refused(x, "sure", x.sure(1, 0, 1), 6);
        x.write(0, 1, 2);
        C.fine(x, "he does not like it", x.fits(0, 0, 1), 4);
        C.fine(x, "sure", x.sure(0, 0, 1), 0);
        x.write(0, 1, 9);
        C.refused(x, "fits", x.fits(0, 0, 1), 5);
        x.write(0, 1, -1);
        C.refused(x, "sure", x.sure(0, 0, 1), 5);
        x.write(0, 1, 8);
        C.fine(x, "fits", x.fits(0, 0, 1), 0);
        x.write(0, 0, 3);
        C.refused(x, "fits", x.fits(0, 0, 1), 5);
        C.fine(x, "twos behind the first n do not count", x.fits(0, 0, 0), 8);
        x.tray(0, 1, 3);
        C.refused(x, "fits", x.fits(0, 0, 2), 3);
        C.refused(x, "sure", x.sure(0, 0, 2), 3);
        UnseenRing y = Check.of("hearer at 0;");
        y.tray(1, 0, 2);
        C.fine(y, "without tunes", y.fits(0, 1, 0), 1);
        C.fine(y, "without tunes", y.sure(0, 1, 0), 0);
        C.refused(y, "without tunes", y.fits(0, 1, 1), 5);
    }

    private static void knowing() {
        UnseenRing x = Check.of("hearer at 0; hearer at 0; hearer at 1; hearer at 15;");
        // all see all: as many rounds as are floured
        C.fine(x, "rounds", x.rounds(1, 8), 1);
        C.fine(x, "rounds", x.rounds(5, 8), 2);
        C.fine(x, "rounds", x.rounds(7, 8), 3);
        C.fine(x, "rounds", x.rounds(15, 8), 4);
        C.fine(x, "knowers", x.knowers(7, 8, 1), 0);
        C.fine(x, "knowers", x.knowers(7, 8, 2), 0);
        C.fine(x, "knowers", x.knowers(7, 8, 3), 7);
        C.fine(x, "knowers", x.knowers(7, 8, 8), 7);
        // in one cell two see one another, none sees the others
        C.refused(x, "rounds", x.rounds(1, 0), 6);
        C.fine(x, "knowers", x.knowers(15, 0, 8), 0);
        C.refused(x, "rounds", x.rounds(0, 8), 1);
        C.refused(x, "rounds", x.rounds(16, 8), 1);
        C.refused(x, "rounds", x.rounds(-1, 8), 1);
        C.refused(x, "rounds", x.rounds(1, 9), 1);
        C.refused(x, "rounds", x.rounds(1, -1), 1);
        C.refused(x, "knowers", x.knowers(0, 8, 1), 1);
        C.refused(x, "knowers", x.knowers(16, 8, 1), 1);
        C.refused(x, "knowers", x.knowers(1, 9, 1), 1);
        C.refused(x, "knowers", x.knowers(1, 8, 0), 1);
        C.refused(x, "knowers", x.knowers(1, 8, 9), 1);
        UnseenRing y = Check.of("hearer at 0;");
        C.fine(y, "one alone", y.rounds(1, 0), 1);
        // in a row of three with SIGHT 1 the middle one sees both, they see him alone
        UnseenRing z = Check.of("hearer at 0; hearer at 1; hearer at 2;");
        C.fine(z, "the middle one knows", z.rounds(2, 1), 1);
        C.fine(z, "knowers", z.knowers(2, 1, 1), 2);
        C.refused(z, "an outer one alone", z.rounds(1, 1), 6);
        C.refused(z, "all", z.rounds(7, 1), 6);
        UnseenRing w = Check.of("hearer at 0; hearer at 1;");
        C.fine(w, "rounds", w.rounds(3, 1), 2);
        C.refused(w, "rounds", w.rounds(3, 0), 6);
    }

    private static void games() {
        // a brings 2 at once, b and c 1 each
        UnseenRing x = Check.of("tune a; tune b; tune c; tune d; hearer at 0 coins 9 likes a b; "
                + "hearer at 0 coins 9 likes a c; hearer at 3 likes d;");
        int[] values = {0, 2, 2, 3, 3};
        for (int n = 0; n <= 4; n++) {
            C.fine(x, "game " + n, x.game(n), values[n]);
        }
        for (int n = 1; n <= 4; n++) {
            C.fine(x, "moveOf " + n, x.moveOf(n), 0);
        }
        C.refused(x, "game", x.game(5), 1);
        C.refused(x, "game", x.game(-1), 1);
        C.refused(x, "moveOf", x.moveOf(0), 1);
        C.refused(x, "moveOf", x.moveOf(5), 1);
        C.due("nothing changed", x.told(7), 0);
        x.give(0, 0);
        C.fine(x, "a and c are as good", x.moveOf(1), 0);
        x.teach(1, 0, false);
        C.fine(x, "only c is good", x.moveOf(1), 2);
        C.fine(x, "c is banned then", x.game(3), 1);
        x.give(1, 0);
        C.fine(x, "nothing comes: the first", x.moveOf(3), 0);
        UnseenRing y = new UnseenRing();
        C.refused(y, "without tunes", y.moveOf(4), 6);
        // one step away: b first, then a or b; a ban takes one of them
        UnseenRing z = Check.of("tune a; tune b; hearer at 1 coins 9 likes a b;");
        C.fine(z, "game", z.game(2), 0);
        C.fine(z, "game", z.game(3), 1);
        C.fine(z, "moveOf", z.moveOf(3), 0);
    }

    private static void odds() {
        UnseenRing x = base();
        // 4 sixteenths: a quarter
        C.fraction(x, "crowd", x.crowd(0), 1, 1);
        C.fraction(x, "crowd", x.crowd(1), 37, 64);
        C.fraction(x, "crowd", x.crowd(2), 5, 32);
        C.fraction(x, "crowd", x.crowd(3), 1, 64);
        C.fraction(x, "crowd", x.crowd(4), 0, 1);
        C.fraction(x, "crowd", x.crowd(6), 0, 1);
        C.refused(x, "crowd", x.crowd(7), 1);
        C.refused(x, "crowd", x.crowd(-1), 1);
        x.rule(16);
        C.fraction(x, "crowd", x.crowd(3), 1, 1);
        x.rule(0);
        C.fraction(x, "crowd", x.crowd(1), 0, 1);
        C.fraction(x, "crowd", x.crowd(0), 1, 1);
        x.rule(1);
        x.come(0);
        x.come(0);
        x.come(0);
        C.fraction(x, "crowd", x.crowd(6), 1, 1 << 24);
        C.fraction(x, "crowd", x.crowd(1), (1 << 24) - 11390625, 1 << 24);
        C.fraction(x, "share", x.share(0), 2, 15);
        C.fraction(x, "share", x.share(2), 1, 5);
        C.refused(x, "share", x.share(6), 1);
        C.refused(x, "share", x.share(-1), 1);
        x.give(0, 0);
        C.fraction(x, "share", x.share(0), 0, 1);
        for (int i = 0; i < 6; i++) {
            x.give(i, 0);
        }
        C.refused(x, "share", x.share(0), 6);
        C.refused(x, "copyCells", x.copyCells(0), 2);
        C.refused(x, "copyCells", x.copyCells(4), 1);
        C.refused(x, "copyCells", x.copyCells(-1), 1);
        x.tray(0, 0, 5);
        C.refused(x, "copyCells", x.copyCells(0), 3);
        x.tray(0, 0, 7);
        x.write(0, 6, 77);
        C.fine(x, "copyCells", x.copyCells(0), 6);
        int[] cells = {0, 4, 8, 0, 0, 0, 77};
        for (int i = 0; i < cells.length; i++) {
            C.fine(x, "read", x.read(0, i), cells[i]);
        }
        UnseenRing y = new UnseenRing();
        y.tray(0, 0, 0);
        C.fine(y, "copyCells of nobody", y.copyCells(0), 0);
    }

    private static void livedIs(UnseenRing x, int missed, int plays, int coins, int hits, int left) {
        int[] want = {missed, plays, coins, hits, left};
        for (int i = 0; i < 5; i++) {
            C.fine(x, "lived " + i, x.lived(i), want[i]);
        }
    }

    private static void lives() {
        UnseenRing x = base();
        C.refused(x, "live", x.live(0), 6);
        C.refused(x, "live", x.live(-1), 1);
        C.refused(x, "live", x.live(10000), 1);
        C.refused(x, "lived", x.lived(0), 6);
        C.refused(x, "lived", x.lived(5), 1);
        C.refused(x, "lived", x.lived(-1), 1);
        C.due("days", Check.days(x, "play a; play c; throw 1; throw 6; grind 4; grind 0; send 2 8; send 2 6; brush; brush; empty; empty;"), 12);
        C.fine(x, "live", x.live(9999), 12);
        // missed: play c; throw 6; grind 4; send 2 8; the second brush; the second empty
        livedIs(x, 6, 1, 1, 1, 0);
        C.due("organ", x.told(6), 0);
        C.due("hearer 2", x.hearer(2, 0), 6);
        C.due("hearer 0", x.hearer(0, 0), 1);
        C.due("cup", x.told(7), 0);
        C.due("played", x.told(8), 1);
        C.due("seen", x.told(9), 0);
        Check.days(x, "loop 99; loop 99; grind 1; grind 0; end; end;");
        C.fine(x, "live", x.live(0), 300);
        livedIs(x, 0, 0, 0, 0, 1);
        // 1 + 1 + 198, then 1 + 99: the 300th is a grind to 1
        C.due("organ", x.told(6), 1);
        Check.days(x, "loop 3; loop 99; brush; end; end;");
        C.fine(x, "1 + 3 + 297 are one too many", x.live(0), 300);
        livedIs(x, 296, 0, 0, 0, 1);
        Check.days(x, "loop 3; loop 98; brush; end; end; brush; brush;");
        C.fine(x, "1 + 3 + 294 + 2 are just enough", x.live(0), 300);
        livedIs(x, 296, 0, 0, 0, 0);
        Check.days(x, "loop 99; brush; stop; brush; end; brush;");
        C.fine(x, "stop", x.live(0), 3);
        livedIs(x, 1, 0, 0, 0, 0);
        Check.days(x, "loop 99; end; when cup > 0; end; loop 2; loop 50; end; end;");
        C.fine(x, "empty loops", x.live(0), 5);
        livedIs(x, 0, 0, 0, 0, 0);
        Check.days(x, "loop 2; loop 2; loop 2; brush; end; end; end; brush;");
        C.fine(x, "loops in loops", x.live(0), 1 + 2 + 4 + 8 + 1);
        livedIs(x, 9, 0, 0, 0, 0);
        C.refused(x, "a refused live changes nothing", x.live(-5), 1);
        livedIs(x, 9, 0, 0, 0, 0);
        Check.square(x, "");
        livedIs(x, 9, 0, 0, 0, 0);
    }

    private static void moreLives() {
        UnseenRing x = base();
        String when = "when up 0; play a; end; when seen 0; grind 0; end; when cup < 1; grind 1; end; when cup = 1; throw 0; end; "
                + "when seen 0; brush; end; when cup > 1; stop; end; when far 0 = 1; grind 2; end;";
        C.due("days", Check.days(x, when), 14);
        // up 0: play a (hearer 0 to 1, a coin); not seen; cup is 1: throw at 0; seen: brush; far is 1: grind 2
        C.fine(x, "live", x.live(0), 11);
        livedIs(x, 0, 1, 1, 1, 0);
        C.due("organ", x.told(6), 2);
        C.due("hearer 0", x.hearer(0, 0), 1);
        C.due("seen", x.told(9), 0);
        UnseenRing y = base();
        Check.days(y, "when up 1; send 2 0; end; when up 1; any; end; when far 2 > 1; when far 2 < 3; when far 2 > 2; brush; end; end; end;");
        C.fine(y, "live", y.live(0), 6);
        livedIs(y, 0, 0, 0, 0, 0);
        UnseenRing z = base();
        z.come(3);
        C.due("who came can be sent", Check.days(z, "send 3 5;"), 1);
        C.fine(z, "live", z.live(0), 1);
        C.due("hearer 3", z.hearer(3, 0), 5);
    }

    private static void draws() {
        // seed 0: 11483, 56094, 60809, by 8: 1435, 7011, 7601
        UnseenRing x = Check.of("square 5 by 5; odds 2; tune a; tune b; hearer at 12 likes b; hearer at 24 likes b;");
        Check.days(x, "any;");
        // TUNE 1435 by 2: 1, CELL 7011 by 25: 11, 7601 by 16: 1, which is below 2
        C.fine(x, "live", x.live(0), 1);
        livedIs(x, 0, 1, 0, 0, 0);
        C.due("hearer 0", x.hearer(0, 0), 11);
        C.due("hearer 1", x.hearer(1, 0), 23);
        x.rule(1);
        C.fine(x, "live", x.live(0), 1);
        livedIs(x, 0, 0, 0, 1, 0);
        C.due("seen", x.told(9), 1);
        x.brush();
        x.send(1, 16);
        C.fine(x, "live", x.live(0), 1);
        C.due("seen", x.told(9), 3);
        x.send(0, 5);
        x.send(1, 17);
        C.fine(x, "live", x.live(0), 1);
        livedIs(x, 1, 0, 0, 0, 0);
        UnseenRing y = Check.of("odds 16; tune a; tune b; hearer at 0 likes a;");
        Check.days(y, "any;");
        C.fine(y, "nobody likes it", y.live(0), 1);
        livedIs(y, 1, 0, 0, 0, 0);
        y.rule(0);
        C.fine(y, "nobody is hit", y.live(0), 1);
        livedIs(y, 1, 0, 0, 0, 0);
        UnseenRing z = Check.of("hearer at 0;");
        Check.days(z, "any; any;");
        C.fine(z, "without tunes", z.live(7), 2);
        livedIs(z, 2, 0, 0, 0, 0);
    }

    private static void means() {
        UnseenRing x = base();
        C.refused(x, "mean", x.mean(0, 1), 6);
        C.refused(x, "mean", x.mean(0, 0), 1);
        C.refused(x, "mean", x.mean(0, 21), 1);
        C.refused(x, "mean", x.mean(-1, 1), 1);
        C.refused(x, "mean", x.mean(10000, 1), 1);
        C.refused(x, "mean", x.mean(9999, 2), 1);
        C.refused(x, "mean", x.mean(HIGH, 20), 1);
        Check.days(x, "play a; loop 9; any; end;");
        C.fine(x, "mean", x.mean(9999, 1));
        C.fine(x, "mean", x.mean(9980, 20));
        C.refused(x, "mean", x.mean(9981, 20), 1);
        C.due("all stays", x.told(7), 0);
        C.due("all stays", x.told(8), 0);
        C.due("all stays", x.told(9), 0);
        C.due("all stays", x.hearer(0, 0), 0);
        C.refused(x, "no live was", x.lived(0), 6);
        long all = 0;
        for (int seed = 100; seed < 112; seed++) {
            x.mark();
            x.live(seed);
            all += x.told(7);
            x.undo();
        }
        C.fine(x, "mean", x.mean(100, 12));
        C.due("mean", x.top() * 12, all * x.bottom());
        C.due("days stay", x.live(0), 11);
    }

    private static void marks() {
        UnseenRing x = base();
        C.refused(x, "undo", x.undo(), 6);
        Check.days(x, "brush; brush;");
        x.throwAt(0);
        x.tray(0, 0, 1);
        C.fine(x, "mark", x.mark(), 1);
        x.play(0);
        x.come(7);
        x.teach(2, 2, true);
        x.grind(0);
        x.rule(16);
        x.throwAt(8);
        C.fine(x, "mark", x.mark(), 2);
        Check.square(x, "square 5 by 5; tune other; hearer at 24 likes other;");
        x.write(0, 0, 5);
        C.fine(x, "mark", x.mark(), 3);
        C.refused(x, "mark", x.mark(), 4);
        Check.days(x, "play other; any;");
        x.crowd(0);
        C.fine(x, "undo", x.undo(), 2);
        C.refused(x, "no days yet", x.live(0), 6);
        C.due("wide", x.told(0), 5);
        C.fine(x, "undo", x.undo(), 1);
        int[] second = {3, 3, 3, 4, 2, 16, 0, 1, 1, 13, 3};
        for (int i = 0; i < second.length; i++) {
            C.fine(x, "told " + i, x.told(i), second[i]);
        }
        C.due("hearer 2 likes", x.hearer(2, 1), 4);
        C.due("names are back", Check.days(x, "play c;"), 1);
        C.fine(x, "undo", x.undo(), 0);
        int[] first = {3, 3, 3, 3, 2, 4, 4, 0, 0, 1, 3};
        for (int i = 0; i < first.length; i++) {
            C.fine(x, "told " + i, x.told(i), first[i]);
        }
        C.due("coins", x.hearer(1, 2), 1);
        C.due("hearer 0", x.hearer(0, 0), 0);
        C.due("hearer 2 likes", x.hearer(2, 1), 0);
        C.fine(x, "the days are back", x.live(0), 2);
        C.due("trays are not taken back", x.read(0, 0), 5);
        C.due("the fraction is not taken back", x.top(), 1);
        C.refused(x, "undo", x.undo(), 6);
    }
}
