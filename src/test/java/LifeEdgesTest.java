/** DAYS as they are lived, means and MARKS, sentence by sentence: '==== 4', promises 49 to 53. */
public final class LifeEdgesTest {
    private static final Check C = new Check("LifeEdgesTest");
    private static final int LOW = Integer.MIN_VALUE;
    private static final int HIGH = Integer.MAX_VALUE;
    private static final Twin FULL = new Twin(C, Twin.FULL);
    /** The organ is in 4; hearer 0 is in 4, 1 in 0, 2 in 8; b is liked by nobody; the dog is in 0. */
    private static final String NINE = "square 3 by 3; organ 4; tune a; tune b; hearer at 4 coins 5 likes a;"
            + "hearer at 0 likes a; hearer at 8; dog at 0;";

    public static void main(String[] args) {
        seeds();
        stepsDone();
        missed();
        missedByAny();
        anyOfMany();
        draws();
        tests();
        loops();
        manyEnds();
        threeHundred();
        stops();
        livedCalls();
        means();
        marks();
        marksKeep();
        fractions();
        C.end();
    }

    private static void livedIs(UnseenRing x, int missed, int plays, int coins, int hits, int left) {
        int[] want = {missed, plays, coins, hits, left};
        for (int i = 0; i < 5; i++) {
            C.fine(x, "lived(" + i + ")", x.lived(i), want[i]);
        }
    }

    private static UnseenRing lived(String days, int steps) {
        UnseenRing x = Check.of(NINE);
        Check.days(x, days);
        C.fine(x, "live: " + days, x.live(0), steps);
        return x;
    }

    private static void seeds() {
        C.sentence("LIVED by a seed (0 to 9,999) (1; 6: no DAYS)");
        FULL.refused("live(-1)", 1, x -> x.live(-1));
        FULL.refused("live(10000)", 1, x -> x.live(10000));
        FULL.refused("live(LOW)", 1, x -> x.live(LOW));
        FULL.refused("live(HIGH)", 1, x -> x.live(HIGH));
        Twin none = FULL.behind(x -> x.square(20));
        none.refused("no days", 6, x -> x.live(0));
        none.refused("no days", 6, x -> x.live(9999));
        none.refused("no days, and no such seed", 1, x -> x.live(10000));
        none.refused("no days, and no such seed", 1, x -> x.live(-1));
        UnseenRing x = Check.of(NINE);
        Check.days(x, "any;");
        C.fine(x, "live(0)", x.live(0), 1);
        C.fine(x, "live(9999)", x.live(9999), 1);
        UnseenRing y = new UnseenRing();
        C.refused(y, "a new object has none", y.live(0), 6);
        y.days(0);
        C.fine(y, "DAYS of no STEP are DAYS", y.live(0), 0);
        livedIs(y, 0, 0, 0, 0, 0);
    }

    private static void stepsDone() {
        C.sentence("how many STEPS were done: those MISSED, too");
        livedIs(lived("play a;", 1), 0, 1, 1, 0, 0);
        livedIs(lived("play b;", 1), 1, 0, 0, 0, 0);
        livedIs(lived("stop;", 1), 0, 0, 0, 0, 0);
        livedIs(lived("when cup > 0; end;", 1), 0, 0, 0, 0, 0);
        livedIs(lived("loop 99; end;", 1), 0, 0, 0, 0, 0);
        C.sentence("LIVED: all is as it is then");
        UnseenRing x = lived("play a; grind 3; throw 8; send 2 6; play a;", 5);
        C.fine(x, "the cup", x.told(7), 1);
        C.fine(x, "played", x.told(8), 2);
        C.fine(x, "the organ", x.told(6), 3);
        C.fine(x, "seen", x.told(9), 4);
        C.fine(x, "hearer 0", x.hearer(0, 0), 3);
        // to 1 along the row, and from there, by the organ in 3, along the row again
        C.fine(x, "hearer 1", x.hearer(1, 0), 0);
        C.fine(x, "hearer 2", x.hearer(2, 0), 6);
        C.fine(x, "live again", x.live(0), 5);
        livedIs(x, 3, 2, 3, 0, 0);
    }

    /** One STEP, behind another text, that is MISSED or not, and what is told of the SQUARE then. */
    private static void once(String ahead, String step, boolean isMissed, int... told) {
        UnseenRing x = Check.of(NINE);
        Check.days(x, ahead);
        x.live(0);
        int before = x.lived(0);
        C.fine(x, "nothing is missed ahead of " + step, before, 0);
        Check.days(x, step);
        C.fine(x, "live: " + step, x.live(0), 1);
        C.fine(x, "missed: " + step, x.lived(0), isMissed ? 1 : 0);
        int[] what = {6, 7, 8, 9};
        for (int i = 0; i < told.length; i++) {
            C.fine(x, "told(" + what[i] + ") behind " + step, x.told(what[i]), told[i]);
        }
    }

    private static void missed() {
        C.sentence("MISSED: a play of a TUNE that nobody LIKES");
        once("", "play b;", true, 4, 0, 0, 0);
        once("", "play a;", false, 4, 1, 1, 0);
        C.sentence("MISSED: a throw that hits nobody");
        once("", "throw 6;", true, 4, 0, 0, 0);
        once("", "throw 5;", false, 4, 0, 0, 1 + 4);
        C.sentence("MISSED: a grind to where it is");
        once("", "grind 4;", true, 4, 0, 0, 0);
        once("", "grind 3;", false, 3, 0, 0, 0);
        C.sentence("MISSED: a send to where he is");
        once("", "send 1 0;", true, 4, 0, 0, 0);
        once("", "send 1 8;", false, 4, 0, 0, 0);
        C.sentence("MISSED: a brush if nobody is SEEN");
        once("", "brush;", true, 4, 0, 0, 0);
        once("throw 4;", "brush;", false, 4, 0, 0, 0);
        C.sentence("MISSED: an empty of an empty CUP");
        once("", "empty;", true, 4, 0, 0, 0);
        once("play a;", "empty;", false, 4, 0, 1, 0);
        C.sentence("what is none of these is not MISSED");
        once("", "stop;", false, 4, 0, 0, 0);
        once("", "loop 5; end;", false, 4, 0, 0, 0);
        once("", "when cup > 0; end;", false, 4, 0, 0, 0);
        once("", "when cup = 0; end;", false, 4, 0, 0, 0);
        UnseenRing x = Check.of("square 1 by 1; tune a; hearer at 0 coins 0 likes a;");
        Check.days(x, "play a;");
        C.fine(x, "a play that brings nothing", x.live(0), 1);
        livedIs(x, 0, 1, 0, 0, 0);
    }

    private static void missedByAny() {
        C.sentence("MISSED: any without TUNES (no draws)");
        UnseenRing x = Check.of("odds 0;" + "hearer at 0;".repeat(6));
        Check.days(x, "any; any; any;");
        C.fine(x, "live", x.live(3), 3);
        livedIs(x, 3, 0, 0, 0, 0);
        C.fine(x, "nobody is hit", x.told(9), 0);
        C.sentence("MISSED: a play by any of a TUNE that nobody LIKES");
        UnseenRing y = Check.of("odds 16; tune a; hearer at 0 coins 9;");
        Check.days(y, "any;");
        C.fine(y, "live", y.live(3), 1);
        livedIs(y, 1, 0, 0, 0, 0);
        C.fine(y, "nothing was played", y.told(8), 0);
        y.teach(0, 0, true);
        C.fine(y, "live", y.live(3), 1);
        livedIs(y, 0, 1, 1, 0, 0);
        C.sentence("MISSED: a throw by any that hits nobody");
        UnseenRing z = Check.of("square 1 by 1; odds 0; tune a;");
        Check.days(z, "any;");
        C.fine(z, "live", z.live(3), 1);
        livedIs(z, 1, 0, 0, 0, 0);
        z.come(0);
        C.fine(z, "live", z.live(3), 1);
        livedIs(z, 0, 0, 0, 1, 0);
        C.fine(z, "seen", z.told(9), 1);
    }

    private static long[] drawsOf(int seed, int many) {
        long[] all = new long[many];
        long s = seed;
        for (int i = 0; i < many; i++) {
            s = (s * 3257 + 11483) % 65536;
            all[i] = s / 8;
        }
        return all;
    }

    private static void draws() {
        C.sentence("Draws: s becomes what is left of s times 3,257 and 11,483 by 65,536; by 8, rounded down, by n");
        // seed 0: 11,483; 56,094; 60,809, and seed 9,999: 6,834; 53,117; 64,048, each by 8
        long[] least = {1435, 7011, 7601};
        long[] most = {854, 6639, 8006};
        for (int i = 0; i < 3; i++) {
            C.due("draw " + i + " of seed 0", drawsOf(0, 3)[i], least[i]);
            C.due("draw " + i + " of seed 9,999", drawsOf(9999, 3)[i], most[i]);
        }
        int[] seeds = {0, 1, 4, 20, 77, 5000, 9998, 9999};
        for (int seed : seeds) {
            long[] d = drawsOf(seed, 6);
            for (int odds = 0; odds <= 16; odds += 4) {
                any(seed, odds, d);
            }
            any(seed, (int) (d[2] % 16), d);
            any(seed, (int) (d[2] % 16) + 1, d);
        }
    }

    /** Two anys by a seed; all three draws are first, whichever of TUNE and THROW it is. */
    private static void any(int seed, int odds, long[] d) {
        UnseenRing x = Check.of("square 5 by 5; odds " + odds + "; tune a; tune b; tune c; hearer at 24 likes a;"
                + "hearer at 24 likes b; hearer at 24 likes c;");
        Check.days(x, "any; any;");
        int[] fars = {8, 8, 8};
        int missed = 0;
        int plays = 0;
        int hits = 0;
        for (int i = 0; i < 6; i += 3) {
            int cell = (int) (d[i + 1] % 25);
            if (d[i + 2] % 16 < odds) {
                fars[(int) (d[i] % 3)]--;
                plays++;
            } else if (hitsOne(cell, fars)) {
                hits++;
            } else {
                missed++;
            }
        }
        C.fine(x, "live(" + seed + "), odds " + odds, x.live(seed), 2);
        livedIs(x, missed, plays, 0, hits, 0);
        for (int i = 0; i < 3; i++) {
            C.fine(x, "hearer " + i + ", seed " + seed + ", odds " + odds, x.hearer(i, 3), fars[i]);
        }
    }

    /** From 24 one goes along the row first, to 23, and then up, to 18. */
    private static boolean hitsOne(int cell, int[] fars) {
        for (int far : fars) {
            int at = far == 8 ? 24 : far == 7 ? 23 : 18;
            if (Math.abs(at % 5 - cell % 5) + Math.abs(at / 5 - cell / 5) <= 1) {
                return true;
            }
        }
        return false;
    }

    private static void anyOfMany() {
        C.sentence("if that is below ODDS, the TUNE is PLAYED, else a THROW at the CELL");
        for (int seed = 0; seed < 10000; seed += 1111) {
            UnseenRing never = Check.of("square 1 by 1; odds 0; tune a; hearer at 0 likes a;");
            Check.days(never, "any;");
            never.live(seed);
            livedIs(never, 0, 0, 0, 1, 0);
            UnseenRing ever = Check.of("square 1 by 1; odds 16; tune a; hearer at 0 likes a;");
            Check.days(ever, "any;");
            ever.live(seed);
            livedIs(ever, 0, 1, 1, 0, 0);
        }
        C.sentence("draws that go around, over all 300 STEPS");
        UnseenRing x = Check.of("square 1 by 1; odds 8; tune a; hearer at 0 coins 99 likes a;");
        Check.days(x, "loop 99; any; any; any; end;");
        int[] seeds = {0, 9999};
        for (int seed : seeds) {
            long[] d = drawsOf(seed, 900);
            int plays = 0;
            for (int i = 0; i < 297; i++) {
                plays += d[3 * i + 2] % 16 < 8 ? 1 : 0;
            }
            C.fine(x, "live", x.live(seed), 298);
            C.fine(x, "plays", x.lived(1), plays);
            C.fine(x, "hits", x.lived(3), 297 - plays);
        }
    }

    private static void holds(String ahead, String test, boolean is) {
        UnseenRing x = Check.of(NINE);
        Check.days(x, ahead + "when " + test + "; stop; end; play b;");
        int steps = x.live(0);
        C.due(ahead + " when " + test, x.lived(0), is ? 0 : 1);
        C.due("steps of " + ahead + " when " + test, steps, (ahead.isEmpty() ? 0 : 1) + 2);
    }

    private static void tests() {
        C.sentence("up: a DOG");
        holds("", "up 0", true);
        holds("send 1 1;", "up 0", true);
        holds("send 1 3;", "up 0", true);
        holds("send 1 2;", "up 0", false);
        holds("send 1 4;", "up 0", false);
        C.sentence("seen: a HEARER");
        holds("", "seen 2", false);
        holds("throw 5;", "seen 2", true);
        holds("throw 5;", "seen 0", true);
        holds("throw 5;", "seen 1", false);
        C.sentence("cup COMPARES NUMBER");
        holds("", "cup < 0", false);
        holds("", "cup = 0", true);
        holds("", "cup > 0", false);
        holds("", "cup < 1", true);
        holds("play a;", "cup < 1", false);
        holds("play a;", "cup = 1", true);
        holds("play a;", "cup > 1", false);
        holds("play a;", "cup > 0", true);
        holds("play a;", "cup < 2", true);
        holds("play a;", "cup < 9999", true);
        C.sentence("far: a HEARER from the ORGAN");
        holds("", "far 1 < 2", false);
        holds("", "far 1 = 2", true);
        holds("", "far 1 > 2", false);
        holds("", "far 1 > 1", true);
        holds("", "far 1 < 3", true);
        holds("", "far 0 = 0", true);
        holds("", "far 0 < 0", false);
        holds("grind 0;", "far 1 = 0", true);
        holds("grind 0;", "far 2 = 4", true);
        UnseenRing x = Check.of("square 5 by 5; hearer at 24;");
        Check.days(x, "when far 0 = 8; grind 1; end; when far 0 < 8; grind 2; end; when far 0 > 8; grind 3; end;");
        C.fine(x, "live", x.live(0), 5);
        C.fine(x, "organ", x.told(6), 2);
    }

    private static void loops() {
        C.sentence("loop n (1 to 99): as often");
        lived("loop 1; brush; end;", 2);
        lived("loop 2; brush; end;", 3);
        UnseenRing x = lived("loop 99; play a; end;", 100);
        C.fine(x, "played", x.told(8), 99);
        C.sentence("when, loop count as one each time they are come to from ahead; end does not");
        lived("loop 2; loop 3; brush; end; end;", 1 + 2 * (1 + 3));
        lived("loop 2; loop 3; loop 4; brush; end; end; end;", 1 + 2 * (1 + 3 * (1 + 4)));
        lived("loop 5; when cup > 0; brush; end; end;", 1 + 5);
        lived("loop 5; when cup = 0; brush; end; end;", 1 + 5 * 2);
        lived("loop 5; end; loop 5; end;", 2);
        lived("loop 9; loop 9; end; end;", 1 + 9);
        lived("when cup = 0; when cup = 0; when cup = 0; end; end; end;", 3);
        lived("when cup > 0; when cup = 0; when cup = 0; end; end; end;", 1);
        lived("when cup > 0; loop 9; brush; end; end; brush;", 2);
        C.sentence("a loop in a loop begins anew");
        UnseenRing y = lived("loop 3; loop 2; play a; end; end;", 1 + 3 * 3);
        C.fine(y, "played", y.told(8), 6);
    }

    private static void manyEnds() {
        C.sentence("end is none: as many STEPS as there can be, and as many ends as the text has room for");
        UnseenRing x = Check.of(NINE);
        C.fine(x, "days", Check.days(x, "loop 2;end;".repeat(19) + "any;".repeat(10) + "grind 1;"), 30);
        C.fine(x, "live", x.live(0), 30);
        C.fine(x, "the last of them was done", x.told(6), 1);
        C.fine(x, "days", Check.days(x, "loop 1;end;".repeat(26) + "grind 2;"), 27);
        C.fine(x, "live", x.live(0), 27);
        C.fine(x, "the last of them was done", x.told(6), 2);
        C.fine(x, "days", Check.days(x, "loop 2;loop 3;end;end;".repeat(12) + "send 2 7; play a;"), 26);
        C.fine(x, "live", x.live(0), 12 * 3 + 2);
        C.fine(x, "the last but one was done", x.hearer(2, 0), 7);
    }

    private static void threeHundred() {
        C.sentence("At most 300 STEPS; 4: 1 if a STEP was left to be done, else 0");
        // 1 + 3 * (1 + 98) + 1, 2, 3
        String loops = "loop 3; loop 98; brush; end; end;";
        UnseenRing x = lived(loops + "brush;", 299);
        livedIs(x, 295, 0, 0, 0, 0);
        UnseenRing y = lived(loops + "brush; brush;", 300);
        livedIs(y, 296, 0, 0, 0, 0);
        UnseenRing z = lived(loops + "brush; brush; brush;", 300);
        livedIs(z, 296, 0, 0, 0, 1);
        C.sentence("behind the 300th STEP only ends, or nothing, or a loop's turn");
        livedIs(lived(loops + "loop 1; brush; end;", 300), 295, 0, 0, 0, 0);
        livedIs(lived(loops + "loop 2; brush; end;", 300), 295, 0, 0, 0, 1);
        livedIs(lived(loops + "brush; loop 9; end;", 300), 295, 0, 0, 0, 0);
        livedIs(lived(loops + "brush; when cup = 0; end;", 300), 295, 0, 0, 0, 0);
        livedIs(lived(loops + "brush; when cup = 0; brush; end;", 300), 295, 0, 0, 0, 1);
        livedIs(lived(loops + "brush; when cup > 0; brush; end;", 300), 295, 0, 0, 0, 0);
        livedIs(lived(loops + "brush; brush; stop;", 300), 296, 0, 0, 0, 1);
        livedIs(lived(loops + "brush; stop; brush;", 300), 295, 0, 0, 0, 0);
        livedIs(lived(loops + "brush; brush; loop 1; end;", 300), 296, 0, 0, 0, 1);
        C.sentence("what is left is not done");
        UnseenRing w = lived(loops + "brush; grind 1; grind 2;", 300);
        C.fine(w, "the organ", w.told(6), 1);
        UnseenRing v = lived("loop 99; loop 99; loop 99; play a; end; end; end;", 300);
        livedIs(v, 0, 295, 8, 0, 1);
        C.fine(v, "played", v.told(8), 295);
        UnseenRing u = lived("loop 99; loop 99; loop 99; end; end; end;", 300);
        livedIs(u, 0, 0, 0, 0, 1);
        Check.days(u, "brush; brush;");
        C.fine(u, "the next are lived anew", u.live(0), 2);
        livedIs(u, 2, 0, 0, 0, 0);
    }

    private static void stops() {
        C.sentence("stop: nothing is left to be done behind it");
        livedIs(lived("brush; stop; brush;", 2), 1, 0, 0, 0, 0);
        livedIs(lived("loop 9; brush; stop; end; brush;", 3), 1, 0, 0, 0, 0);
        livedIs(lived("loop 9; loop 9; when cup = 0; stop; end; end; end; brush;", 4), 0, 0, 0, 0, 0);
        UnseenRing x = lived("stop; grind 1;", 1);
        C.fine(x, "the organ", x.told(6), 4);
    }

    private static void livedCalls() {
        C.sentence("lived: what 0 to 4 (1; 6: there was none)");
        FULL.refused("lived(-1)", 1, x -> x.lived(-1));
        FULL.refused("lived(5)", 1, x -> x.lived(5));
        FULL.refused("lived(LOW)", 1, x -> x.lived(LOW));
        UnseenRing x = Check.of(NINE);
        for (int what = 0; what < 5; what++) {
            C.refused(x, "there was none", x.lived(what), 6);
        }
        C.refused(x, "there was none, nor such", x.lived(5), 1);
        C.refused(x, "there was none, nor such", x.lived(-1), 1);
        C.refused(x, "a live that is refused", x.live(0), 6);
        C.refused(x, "is none", x.lived(0), 6);
        Check.days(x, "play a; play b; throw 4;");
        C.fine(x, "mean", x.mean(0, 20));
        C.refused(x, "a mean is none", x.lived(0), 6);
        x.live(0);
        livedIs(x, 1, 1, 1, 1, 0);
        C.sentence("Of live() latest with STATUS 0");
        C.refused(x, "live(-1)", x.live(-1), 1);
        livedIs(x, 1, 1, 1, 1, 0);
        Check.days(x, "stop;");
        livedIs(x, 1, 1, 1, 1, 0);
        x.live(0);
        livedIs(x, 0, 0, 0, 0, 0);
        Check.days(x, "throw 4; throw 4; throw 6;");
        x.live(0);
        livedIs(x, 1, 0, 0, 2, 0);
        x.square(0);
        C.refused(x, "live", x.live(0), 6);
        livedIs(x, 1, 0, 0, 2, 0);
    }

    private static void means() {
        C.sentence("mean: by so many seeds (1 to 20) (1: the last above 9,999, too; 6: no DAYS)");
        FULL.refusedFlag("mean(0, 0)", 1, x -> x.mean(0, 0));
        FULL.refusedFlag("mean(0, 21)", 1, x -> x.mean(0, 21));
        FULL.refusedFlag("mean(0, -1)", 1, x -> x.mean(0, -1));
        FULL.refusedFlag("mean(-1, 1)", 1, x -> x.mean(-1, 1));
        FULL.refusedFlag("mean(-1, 5)", 1, x -> x.mean(-1, 5));
        FULL.refusedFlag("mean(10000, 1)", 1, x -> x.mean(10000, 1));
        FULL.refusedFlag("mean(9999, 2)", 1, x -> x.mean(9999, 2));
        FULL.refusedFlag("mean(9981, 20)", 1, x -> x.mean(9981, 20));
        FULL.refusedFlag("mean(HIGH, 20)", 1, x -> x.mean(HIGH, 20));
        FULL.refusedFlag("mean(HIGH, HIGH)", 1, x -> x.mean(HIGH, HIGH));
        FULL.refusedFlag("mean(LOW, LOW)", 1, x -> x.mean(LOW, LOW));
        Twin none = FULL.behind(x -> x.square(20));
        none.refusedFlag("no days", 6, x -> x.mean(0, 1));
        none.refusedFlag("no days", 6, x -> x.mean(9999, 1));
        none.refusedFlag("no days, and no such seeds", 1, x -> x.mean(9999, 2));
        UnseenRing x = Check.of("square 1 by 1; odds 8; tune a; hearer at 0 coins 99 likes a;");
        Check.days(x, "loop 3; any; end;");
        int[][] can = {{0, 1}, {0, 20}, {9999, 1}, {9998, 2}, {9980, 20}, {7, 3}};
        for (int[] c : can) {
            long all = 0;
            for (int seed = c[0]; seed < c[0] + c[1]; seed++) {
                long[] d = drawsOf(seed, 9);
                for (int i = 2; i < 9; i += 3) {
                    all += d[i] % 16 < 8 ? 1 : 0;
                }
            }
            C.fine(x, "mean(" + c[0] + ", " + c[1] + ")", x.mean(c[0], c[1]));
            C.due("top by bottom", x.top() * c[1], all * x.bottom());
            C.due("bottom", c[1] % x.bottom(), 0);
        }
        C.sentence("all stays as it is");
        Twin still = FULL.behind(y -> y.mean(3, 5));
        still.told("mean again", 1, y -> y.mean(3, 5) ? 1 : 0);
        meanOfCup();
    }

    private static void meanOfCup() {
        C.sentence("the mean of what is in the CUP behind the DAYS");
        UnseenRing x = Check.of(NINE);
        x.play(0);
        x.play(0);
        Check.days(x, "brush;");
        C.fraction(x, "what is in it already counts", x.mean(0, 3), 2, 1);
        Check.days(x, "empty;");
        C.fraction(x, "0 is 0 by 1", x.mean(0, 7), 0, 1);
        C.fine(x, "it is not emptied", x.told(7), 2);
        Check.days(x, "");
        C.fraction(x, "DAYS of no STEP", x.mean(0, 1), 2, 1);
    }

    private static void marks() {
        C.sentence("MARKS, at most 3: how many there are (4); undo: how many there are left (6)");
        UnseenRing x = Check.of(NINE);
        C.refused(x, "undo without a mark", x.undo(), 6);
        for (int i = 1; i <= 3; i++) {
            C.fine(x, "mark", x.mark(), i);
        }
        C.refused(x, "a fourth", x.mark(), 4);
        C.refused(x, "a fourth", x.mark(), 4);
        for (int i = 2; i >= 0; i--) {
            C.fine(x, "undo", x.undo(), i);
        }
        C.refused(x, "undo without a mark", x.undo(), 6);
        C.fine(x, "mark again", x.mark(), 1);
        C.fine(x, "undo again", x.undo(), 0);
        Twin three = FULL.behind(UnseenRing::mark);
        three.refused("a fourth", 4, UnseenRing::mark);
        Twin none = FULL.behind(y -> {
            y.undo();
            y.undo();
        });
        none.refused("no mark", 6, UnseenRing::undo);
        C.sentence("all is taken back to the latest MARK, which is gone then");
        UnseenRing y = Check.of(NINE);
        for (int cell = 1; cell <= 3; cell++) {
            y.grind(cell);
            y.mark();
        }
        y.grind(8);
        C.refused(y, "a fourth", y.mark(), 4);
        for (int cell = 3; cell >= 1; cell--) {
            C.fine(y, "undo", y.undo(), cell - 1);
            C.fine(y, "organ", y.told(6), cell);
        }
        C.refused(y, "undo", y.undo(), 6);
        C.fine(y, "organ", y.told(6), 1);
    }

    private static void marksKeep() {
        C.sentence("the SQUARE with all that became of it, the DAYS are kept as they are");
        UnseenRing x = Check.of("square 2 by 3; odds 3; organ 1; tune a; tune b; hearer at 1 coins 7 likes a; hearer at 4; dog at 5;");
        Check.days(x, "grind 3; grind 4;");
        x.play(0);
        x.throwAt(4);
        x.mark();
        Check.square(x, "square 5 by 5; odds 9; organ 9; tune z;" + "hearer at 24 coins 50 likes z;".repeat(6)
                + "dog at 7;".repeat(4));
        Check.days(x, "play z; any; stop;");
        x.live(5);
        C.fine(x, "undo", x.undo(), 0);
        int[] told = {2, 3, 2, 2, 1, 3, 1, 1, 1, 2, 1};
        for (int i = 0; i < told.length; i++) {
            C.fine(x, "told(" + i + ")", x.told(i), told[i]);
        }
        int[][] hearers = {{1, 1, 6, 0, 0}, {4, 0, 3, 3, 1}};
        for (int h = 0; h < 2; h++) {
            for (int what = 0; what < 5; what++) {
                C.fine(x, "hearer " + h + ", " + what, x.hearer(h, what), hearers[h][what]);
            }
        }
        C.refused(x, "no third", x.hearer(2, 0), 1);
        C.fine(x, "dog", x.dog(0, 0), 5);
        C.fine(x, "the days are back", x.live(0), 2);
        C.fine(x, "the organ", x.told(6), 4);
        C.fine(x, "the names are back", Check.days(x, "play a; play b;"), 2);
        C.refused(x, "z is gone", Check.days(x, "play z;"), 9);
        UnseenRing z = Check.of(NINE);
        String days = "send 2 7; when far 2 = 1; play a; end; when cup < 1; grind 1; end; when cup > 0; throw 6; end; loop 2; "
                + "throw 8; end;";
        Check.days(z, days);
        z.mark();
        Check.days(z, "when cup = 9999; send 0 0; end; brush; brush; brush; brush; brush; brush; brush; brush; brush;");
        z.undo();
        C.fraction(z, "mean of the days that are back", z.mean(0, 4), 1, 1);
        C.fine(z, "their steps", z.live(0), 9);
        livedIs(z, 0, 1, 1, 3, 0);
        C.sentence("no DAYS are kept as none");
        UnseenRing y = Check.of(NINE);
        y.mark();
        Check.days(y, "any;");
        y.undo();
        C.refused(y, "live", y.live(0), 6);
    }

    private static void fractions() {
        C.sentence("FRACTIONS: without a common divisor, the bottom above 0; 0 is 0 by 1");
        UnseenRing x = Check.of("odds 0; hearer at 0 coins 0; hearer at 0 coins 6;");
        C.fraction(x, "0 of a share", x.share(0), 0, 1);
        C.fraction(x, "all of a share", x.share(1), 1, 1);
        C.fraction(x, "0 of a crowd", x.crowd(1), 0, 1);
        C.fraction(x, "all of a crowd", x.crowd(0), 1, 1);
        C.fraction(x, "0 of odds", x.oddsThat(0, 0, 0), 0, 1);
        Check.days(x, "brush;");
        x.crowd(0);
        C.fraction(x, "0 of a mean", x.mean(0, 20), 0, 1);
        C.sentence("a refused call leaves the FRACTION told latest");
        x.oddsThat(0, 2, 3);
        C.due("top", x.top(), 1);
        C.due("bottom", x.bottom(), 8);
        C.refused(x, "share", x.share(2), 1);
        C.refused(x, "crowd", x.crowd(7), 1);
        C.refused(x, "oddsThat", x.oddsThat(1, 0, 0), 1);
        C.refused(x, "mean", x.mean(0, 0), 1);
        C.due("top", x.top(), 1);
        C.due("bottom", x.bottom(), 8);
        x.mark();
        x.undo();
        x.square(0);
        C.due("top", x.top(), 1);
        C.due("bottom", x.bottom(), 8);
    }
}
