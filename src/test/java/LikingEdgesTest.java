import java.util.function.Consumer;

/** What one likes and knows, games, odds, sentence by sentence: the other half of '==== 3', promises 40 to 48. */
public final class LikingEdgesTest {
    private static final Check C = new Check("LikingEdgesTest");
    private static final int LOW = Integer.MIN_VALUE;
    private static final int HIGH = Integer.MAX_VALUE;
    private static final Twin FULL = new Twin(C, Twin.FULL);

    public static void main(String[] args) {
        fits();
        fitTrays();
        fitSets();
        sures();
        knowing();
        knowers();
        sights();
        games();
        gameOrder();
        moves();
        crowds();
        shares();
        copies();
        C.end();
    }

    /** A tray 0 of a sort with these numbers. */
    private static Consumer<UnseenRing> tray(int sort, long... numbers) {
        return x -> {
            x.tray(0, sort, numbers.length);
            for (int i = 0; i < numbers.length; i++) {
                x.write(0, i, numbers[i]);
            }
        };
    }

    private static void fits() {
        C.sentence("FITS: the first n (0 to 20) twos (1; 2; 3; 5)");
        // hearer 2 stays FAR by 1, in 6 from the organ in 3
        Twin many = FULL.behind(tray(0, 0, 1, 1, 1, 2, 1));
        many.refused("fits(-1, 0, 0)", 1, x -> x.fits(-1, 0, 0));
        many.refused("fits(3, 0, 0)", 1, x -> x.fits(3, 0, 0));
        many.refused("fits(2, -1, 0)", 1, x -> x.fits(2, -1, 0));
        many.refused("fits(2, 4, 0)", 1, x -> x.fits(2, 4, 0));
        many.refused("fits(2, 0, -1)", 1, x -> x.fits(2, 0, -1));
        many.refused("fits(2, 0, 21)", 1, x -> x.fits(2, 0, 21));
        many.refused("fits(2, 3, 21)", 1, x -> x.fits(2, 3, 21));
        many.refused("fits(2, 3, 0)", 2, x -> x.fits(2, 3, 0));
        many.refused("fits(2, 0, 4)", 3, x -> x.fits(2, 0, 4));
        many.refused("fits(2, 0, 20)", 3, x -> x.fits(2, 0, 20));
        many.told("fits(2, 0, 0)", 8, x -> x.fits(2, 0, 0));
        many.told("fits(2, 0, 1)", 4, x -> x.fits(2, 0, 1));
        many.told("fits(2, 0, 3)", 1, x -> x.fits(2, 0, 3));
        many.refused("sure(-1, 0, 0)", 1, x -> x.sure(-1, 0, 0));
        many.refused("sure(3, 0, 0)", 1, x -> x.sure(3, 0, 0));
        many.refused("sure(2, -1, 0)", 1, x -> x.sure(2, -1, 0));
        many.refused("sure(2, 4, 0)", 1, x -> x.sure(2, 4, 0));
        many.refused("sure(2, 0, -1)", 1, x -> x.sure(2, 0, -1));
        many.refused("sure(2, 0, 21)", 1, x -> x.sure(2, 0, 21));
        many.refused("sure(2, 3, 21)", 1, x -> x.sure(2, 3, 21));
        many.refused("sure(2, 3, 0)", 2, x -> x.sure(2, 3, 0));
        many.refused("sure(2, 0, 4)", 3, x -> x.sure(2, 0, 4));
        many.told("sure(2, 0, 3)", 0, x -> x.sure(2, 0, 3));
        C.sentence("too few numbers: n twos are 2 n numbers");
        UnseenRing x = Check.of("tune a; hearer at 0 likes a;");
        x.tray(0, 0, 40);
        C.fine(x, "20 twos of 40 numbers", x.fits(0, 0, 20), 2);
        C.fine(x, "sure", x.sure(0, 0, 20), 0);
        x.tray(0, 0, 39);
        C.refused(x, "20 twos of 39", x.fits(0, 0, 20), 3);
        C.refused(x, "20 twos of 39", x.sure(0, 0, 20), 3);
        C.fine(x, "19 twos of 39", x.fits(0, 0, 19), 2);
        x.tray(0, 0, 60);
        C.fine(x, "20 twos of 60", x.fits(0, 0, 20), 2);
        C.refused(x, "21 twos of 60", x.fits(0, 0, 21), 1);
        x.tray(0, 0, 1);
        C.refused(x, "one two of one number", x.fits(0, 0, 1), 3);
        x.tray(0, 0, 2);
        C.fine(x, "one two of two numbers", x.fits(0, 0, 1), 2);
        x.tray(0, 0, 0);
        C.fine(x, "no two of no number", x.fits(0, 0, 0), 2);
    }

    private static void fitTrays() {
        C.sentence("by twos a TUNE and a number (0 to 8); 5 a number in a TRAY that can't be");
        long[] noTune = {-1, 3, 6, 127, -128};
        for (long tune : noTune) {
            Twin wrong = FULL.behind(tray(0, 0, 1, tune, 1));
            wrong.refused("fits with tune " + tune, 5, x -> x.fits(2, 0, 2));
            wrong.refused("sure with tune " + tune, 5, x -> x.sure(2, 0, 2));
            wrong.refused("too few numbers, and tune " + tune, 3, x -> x.fits(2, 0, 3));
            wrong.refused("no such hearer, and tune " + tune, 1, x -> x.fits(3, 0, 2));
            wrong.told("behind the first n it does not count: " + tune, 4, x -> x.fits(2, 0, 1));
        }
        long[] noFar = {-1, 9, 127, -128};
        for (long far : noFar) {
            Twin wrong = FULL.behind(tray(1, 0, 1, 1, far));
            wrong.refused("fits with far " + far, 5, x -> x.fits(2, 0, 2));
            wrong.refused("sure with far " + far, 5, x -> x.sure(2, 0, 2));
            wrong.told("behind the first n it does not count: " + far, 4, x -> x.fits(2, 0, 1));
        }
        long[] wide = {1L << 32, (1L << 32) + 1, Long.MIN_VALUE, Long.MAX_VALUE};
        for (long number : wide) {
            FULL.behind(tray(3, number, 1)).refused("fits with tune " + number, 5, x -> x.fits(2, 0, 1));
            FULL.behind(tray(3, 0, number)).refused("fits with far " + number, 5, x -> x.fits(2, 0, 1));
        }
        for (int far = 0; far <= 8; far++) {
            UnseenRing x = Check.of("square 5 by 5; tune a; hearer at 24;");
            tray(0, 0, far).accept(x);
            C.fine(x, "far " + far, x.fits(0, 0, 1), far >= 7 ? 1 : 0);
        }
        C.sentence("5 ahead of 6");
        FULL.behind(tray(0, 0, 8, 0, 9)).refused("sure", 5, x -> x.sure(2, 0, 2));
        UnseenRing x = Check.of("hearer at 0;");
        x.tray(0, 0, 2);
        C.refused(x, "a square without tunes has no tune 0", x.fits(0, 0, 1), 5);
        C.fine(x, "one set of no tunes", x.fits(0, 0, 0), 1);
        C.fine(x, "it is empty", x.sure(0, 0, 0), 0);
    }

    private static void fitSets() {
        C.sentence("how many sets of TUNES there are (of all)");
        UnseenRing x = Check.of("square 5 by 5; tune a; tune b; tune c; tune d; tune e; tune f; hearer at 24;");
        x.tray(0, 0, 12);
        C.fine(x, "all sets", x.fits(0, 0, 0), 64);
        // a, b, .. f in turn: he comes nearer by the first and the last
        int[] fars = {7, 7, 7, 7, 7, 6};
        for (int i = 0; i < 6; i++) {
            x.write(0, 2 * i, i);
            x.write(0, 2 * i + 1, fars[i]);
            C.fine(x, "fits " + (i + 1), x.fits(0, 0, i + 1), 32 >> i);
            C.fine(x, "sure " + (i + 1), x.sure(0, 0, i + 1), i == 5 ? 33 : 1);
        }
        C.sentence("so FAR behind each TUNE PLAYED, one behind the other from now on");
        UnseenRing y = Check.of("tune a; tune b; hearer at 1 likes b;");
        tray(0, 0, 0, 0, 0, 1, 0).accept(y);
        C.fine(y, "a brought him there", y.fits(0, 0, 1), 2);
        C.fine(y, "there he stays", y.fits(0, 0, 2), 2);
        C.fine(y, "b tells nothing then", y.fits(0, 0, 3), 2);
        C.fine(y, "what he likes now does not count", y.sure(0, 0, 3), 1);
        tray(0, 0, 1, 0, 0).accept(y);
        C.fine(y, "one tune can't do both", y.fits(0, 0, 2), 0);
        tray(0, 0, 2).accept(y);
        C.fine(y, "nobody goes away", y.fits(0, 0, 1), 0);
        C.fine(y, "nothing changed", y.hearer(0, 1), 2);
        C.fine(y, "nothing changed", y.hearer(0, 0), 1);
    }

    private static void sures() {
        C.sentence("SURE: the TUNES that are in all of these sets (6: none FIT)");
        FULL.behind(tray(0, 0, 8)).refused("none fits", 6, x -> x.sure(2, 0, 1));
        FULL.behind(tray(0, 0, 8)).told("none fits", 0, x -> x.fits(2, 0, 1));
        FULL.behind(tray(0, 0, 0)).told("a is sure", 1, x -> x.sure(2, 0, 1));
        FULL.behind(tray(0, 2, 0)).told("c is sure", 4, x -> x.sure(2, 0, 1));
        FULL.behind(tray(0, 2, 1)).told("nothing is sure", 0, x -> x.sure(2, 0, 1));
        UnseenRing x = Check.of("tune a; tune b; tune c; tune d; tune e; tune f; hearer at 15;");
        tray(0, 0, 5, 1, 4, 2, 3, 3, 2, 4, 1, 5, 0).accept(x);
        C.fine(x, "all are sure", x.sure(0, 0, 6), 63);
        C.fine(x, "one set", x.fits(0, 0, 6), 1);
    }

    private static void knowing() {
        C.sentence("KNOWING of a set of HEARERS (not empty) and a SIGHT (0 to 8) (1: an empty set, too; 6: in none)");
        FULL.refused("rounds(0, 8)", 1, x -> x.rounds(0, 8));
        FULL.refused("rounds(8, 8)", 1, x -> x.rounds(8, 8));
        FULL.refused("rounds(-1, 8)", 1, x -> x.rounds(-1, 8));
        FULL.refused("rounds(LOW, 8)", 1, x -> x.rounds(LOW, 8));
        FULL.refused("rounds(7, -1)", 1, x -> x.rounds(7, -1));
        FULL.refused("rounds(7, 9)", 1, x -> x.rounds(7, 9));
        FULL.told("rounds(1, 8)", 1, x -> x.rounds(1, 8));
        FULL.told("rounds(7, 8)", 3, x -> x.rounds(7, 8));
        FULL.refused("in none", 6, x -> x.rounds(1, 0));
        C.sentence("all are told that one at least is: as many ROUNDS as are floured, if all see all");
        UnseenRing x = Check.of("hearer at 3;".repeat(6));
        for (int set = 1; set < 64; set++) {
            C.fine(x, "rounds(" + set + ", 0)", x.rounds(set, 0), Integer.bitCount(set));
        }
        C.refused(x, "rounds(64, 0)", x.rounds(64, 0), 1);
        C.refused(x, "rounds(0, 0)", x.rounds(0, 0), 1);
        UnseenRing y = Check.of("hearer at 3;");
        C.fine(y, "one alone knows at once", y.rounds(1, 0), 1);
        UnseenRing z = new UnseenRing();
        C.refused(z, "nobody is there", z.rounds(0, 0), 1);
        C.refused(z, "nobody is there", z.rounds(1, 0), 1);
    }

    private static void knowers() {
        C.sentence("KNOWERS of a ROUND (1 to 8) (1: an empty set of HEARERS, too)");
        FULL.refused("knowers(0, 8, 1)", 1, x -> x.knowers(0, 8, 1));
        FULL.refused("knowers(8, 8, 1)", 1, x -> x.knowers(8, 8, 1));
        FULL.refused("knowers(-1, 8, 1)", 1, x -> x.knowers(-1, 8, 1));
        FULL.refused("knowers(7, -1, 1)", 1, x -> x.knowers(7, -1, 1));
        FULL.refused("knowers(7, 9, 1)", 1, x -> x.knowers(7, 9, 1));
        FULL.refused("knowers(7, 8, 0)", 1, x -> x.knowers(7, 8, 0));
        FULL.refused("knowers(7, 8, 9)", 1, x -> x.knowers(7, 8, 9));
        FULL.refused("knowers(7, 8, HIGH)", 1, x -> x.knowers(7, 8, HIGH));
        FULL.told("knowers(7, 8, 1)", 0, x -> x.knowers(7, 8, 1));
        FULL.told("knowers(7, 8, 3)", 7, x -> x.knowers(7, 8, 3));
        FULL.told("knowers(7, 8, 8)", 7, x -> x.knowers(7, 8, 8));
        FULL.told("nobody knows", 0, x -> x.knowers(7, 0, 8));
        UnseenRing x = Check.of("hearer at 3;".repeat(6));
        for (int round = 1; round <= 8; round++) {
            C.fine(x, "all six, round " + round, x.knowers(63, 0, round), round < 6 ? 0 : 63);
            C.fine(x, "three, round " + round, x.knowers(42, 0, round), round < 3 ? 0 : 42);
            C.fine(x, "the last one, round " + round, x.knowers(32, 0, round), 32);
        }
    }

    private static void sights() {
        C.sentence("who are no FARTHER from him than SIGHT");
        UnseenRing x = Check.of("square 5 by 5; hearer at 0; hearer at 24;");
        for (int sight = 0; sight < 8; sight++) {
            C.refused(x, "they don't see one another, sight " + sight, x.rounds(1, sight), 6);
            C.refused(x, "both floured, sight " + sight, x.rounds(3, sight), 6);
        }
        C.fine(x, "they do, sight 8", x.rounds(1, 8), 1);
        C.fine(x, "both floured, sight 8", x.rounds(3, 8), 2);
        UnseenRing y = Check.of("hearer at 0; hearer at 0; hearer at 1;");
        C.fine(y, "sight 1 sees who is beside", y.rounds(7, 1), 3);
        C.refused(y, "sight 0 sees who is in his cell alone", y.rounds(7, 0), 6);
        // in a row of three with SIGHT 1 those at the ends see the middle one alone
        UnseenRing z = Check.of("square 3 by 1; hearer at 0; hearer at 1; hearer at 2;");
        C.fine(z, "the middle one knows at once", z.knowers(2, 1, 1), 2);
        C.fine(z, "and ever", z.knowers(2, 1, 2), 2);
        C.fine(z, "an end and the middle: round 1", z.knowers(3, 1, 1), 0);
        C.sentence("by what was told in all ROUNDS ahead");
        // the middle one sees an end floured: had he been clean, that end would not have known either
        C.refused(z, "an end and the middle: in none", z.rounds(3, 1), 6);
        C.refused(z, "both ends: in none", z.rounds(5, 1), 6);
    }

    private static void games() {
        C.sentence("GAME of n turns (0 to 4) (1)");
        FULL.refused("game(-1)", 1, x -> x.game(-1));
        FULL.refused("game(5)", 1, x -> x.game(5));
        FULL.refused("game(LOW)", 1, x -> x.game(LOW));
        FULL.refused("game(HIGH)", 1, x -> x.game(HIGH));
        FULL.told("game(0)", 0, x -> x.game(0));
        C.sentence("how many COINS came in the end");
        UnseenRing x = Check.of("tune a; hearer at 0 coins 9 likes a;");
        int[] one = {0, 1, 1, 1, 1};
        UnseenRing y = Check.of("tune a; tune b; hearer at 0 coins 9 likes a b;");
        int[] two = {0, 1, 1, 2, 2};
        UnseenRing z = Check.of("tune a; tune b; hearer at 0 coins 1 likes a b;");
        int[] poor = {0, 1, 1, 1, 1};
        UnseenRing w = Check.of("tune a; tune b; hearer at 1 coins 9 likes a b;");
        int[] near = {0, 0, 0, 1, 1};
        for (int n = 0; n <= 4; n++) {
            C.fine(x, "one tune, which is banned then", x.game(n), one[n]);
            C.fine(y, "two tunes, one of which is banned", y.game(n), two[n]);
            C.fine(z, "he has but one coin", z.game(n), poor[n]);
            C.fine(w, "he comes first", w.game(n), near[n]);
        }
        UnseenRing v = new UnseenRing();
        for (int n = 0; n <= 4; n++) {
            C.fine(v, "without tunes", v.game(n), 0);
        }
        x.play(0);
        C.fine(x, "what came ahead of it is not in it", x.game(1), 1);
        C.fine(x, "nothing changed", x.told(7), 1);
    }

    private static void gameOrder() {
        C.sentence("first one who plays, then one who bans; by best play (the first wants many)");
        // a brings 1, b brings 2, c brings 3
        UnseenRing x = Check.of("tune a; tune b; tune c; hearer at 0 coins 9 likes a b c; hearer at 0 coins 9 likes b c;"
                + "hearer at 0 coins 9 likes c;");
        int[] want = {0, 3, 3, 5, 5};
        for (int n = 0; n <= 4; n++) {
            C.fine(x, "c, then c is banned, then b: " + n, x.game(n), want[n]);
        }
        // d is liked by nobody, and can be banned, too, to no use
        UnseenRing y = Check.of("tune a; tune d; hearer at 0 coins 9 likes a;");
        C.fine(y, "a, then a is banned", y.game(3), 1);
        // he is BESIDE by a and b: a, and a is banned, then b
        UnseenRing z = Check.of("tune a; tune b; hearer at 1 coins 9 likes a; hearer at 1 coins 9 likes b;");
        C.fine(z, "who comes by a gives by a alone, which is banned", z.game(3), 0);
        UnseenRing w = Check.of("tune a; tune b; hearer at 0 coins 1 likes a; hearer at 1 coins 9 likes a b;");
        C.fine(w, "a, then the one who came gives by b", w.game(3), 2);
    }

    private static void moves() {
        C.sentence("MOVE (1: n 0, too; 6: none)");
        FULL.refused("moveOf(-1)", 1, x -> x.moveOf(-1));
        FULL.refused("moveOf(0)", 1, x -> x.moveOf(0));
        FULL.refused("moveOf(5)", 1, x -> x.moveOf(5));
        FULL.behind(x -> x.square(0)).refused("without tunes", 6, x -> x.moveOf(1));
        FULL.behind(x -> x.square(0)).refused("without tunes, n 0", 1, x -> x.moveOf(0));
        FULL.behind(x -> x.square(0)).refused("without tunes", 6, x -> x.moveOf(4));
        C.sentence("the first's first TUNE, of all that are as good the first; none comes last");
        UnseenRing x = Check.of("tune a; tune b; tune c; hearer at 0 coins 9 likes b c;");
        C.fine(x, "b and c are as good", x.moveOf(1), 1);
        C.fine(x, "b and c are as good", x.moveOf(2), 1);
        C.fine(x, "b and c are as good", x.moveOf(3), 1);
        C.fine(x, "b and c are as good", x.moveOf(4), 1);
        x.teach(0, 1, false);
        C.fine(x, "c alone is", x.moveOf(1), 2);
        x.give(0, 0);
        C.fine(x, "nothing comes: a is as good as none, and comes first", x.moveOf(1), 0);
        UnseenRing y = Check.of("tune a;");
        C.fine(y, "one that nobody LIKES, too", y.moveOf(1), 0);
        C.fine(y, "nothing changed", y.told(8), 0);
        UnseenRing z = Check.of("tune a; tune b; tune c; tune d; tune e; tune f; hearer at 0 likes f;");
        C.fine(z, "the last tune", z.moveOf(4), 5);
        C.sentence("by best play: what is banned behind it counts");
        UnseenRing w = Check.of("tune a; tune b; hearer at 0 coins 1 likes a;" + "hearer at 0 coins 1 likes b;".repeat(2));
        C.fine(w, "b first, since it would be banned", w.moveOf(3), 1);
        C.fine(w, "b, then nothing or a", w.game(3), 2);
        UnseenRing v = Check.of("tune a; tune b; tune c; hearer at 0 coins 1 likes a; hearer at 0 coins 1 likes b;"
                + "hearer at 0 coins 1 likes c; hearer at 0 coins 1 likes c;");
        C.fine(v, "c, then one of a and b", v.moveOf(3), 2);
        C.fine(v, "c, then one of a and b", v.game(3), 3);
        UnseenRing u = Check.of("tune a; tune b; tune c; hearer at 0 coins 1 likes c;"
                + "hearer at 1 coins 9 likes a b;".repeat(3));
        C.fine(u, "a brings nothing yet, but three come", u.moveOf(3), 0);
        C.fine(u, "they give by b", u.game(3), 3);
        C.fine(u, "by one play c is better", u.moveOf(1), 2);
    }

    private static void crowds() {
        C.sentence("CROWD of k (0 to 6): the odds that k or more do (1)");
        FULL.refusedFlag("crowd(-1)", 1, x -> x.crowd(-1));
        FULL.refusedFlag("crowd(7)", 1, x -> x.crowd(7));
        FULL.refusedFlag("crowd(LOW)", 1, x -> x.crowd(LOW));
        UnseenRing x = new UnseenRing();
        C.fraction(x, "nobody: none or more", x.crowd(0), 1, 1);
        C.fraction(x, "nobody: one or more", x.crowd(1), 0, 1);
        C.fraction(x, "nobody: six", x.crowd(6), 0, 1);
        UnseenRing y = Check.of("hearer at 0;".repeat(6));
        long[] tops = {1, 63, 57, 21, 11, 7, 1};
        long[] bottoms = {1, 64, 64, 32, 32, 64, 64};
        for (int k = 0; k <= 6; k++) {
            C.fraction(y, "half of six, " + k, y.crowd(k), tops[k], bottoms[k]);
        }
        y.rule(0);
        for (int k = 0; k <= 6; k++) {
            C.fraction(y, "ODDS 0, " + k, y.crowd(k), k == 0 ? 1 : 0, 1);
        }
        y.rule(16);
        for (int k = 0; k <= 6; k++) {
            C.fraction(y, "ODDS 16, " + k, y.crowd(k), 1, 1);
        }
        y.rule(1);
        C.fraction(y, "ODDS 1, all six", y.crowd(6), 1, 16777216);
        y.rule(15);
        C.fraction(y, "ODDS 15, all six", y.crowd(6), 11390625, 16777216);
        C.fraction(y, "ODDS 15, one or more", y.crowd(1), 16777215, 16777216);
    }

    private static void shares() {
        C.sentence("SHARE of a HEARER: his COINS by those of all HEARERS (1; 6: nobody has COINS)");
        FULL.refusedFlag("share(-1)", 1, x -> x.share(-1));
        FULL.refusedFlag("share(3)", 1, x -> x.share(3));
        Twin poor = FULL.behind(x -> {
            x.give(0, 0);
            x.give(1, 0);
            x.give(2, 0);
        });
        poor.refusedFlag("nobody has coins", 6, x -> x.share(0));
        poor.refusedFlag("nobody has coins", 6, x -> x.share(2));
        poor.refusedFlag("nor is there such a hearer", 1, x -> x.share(3));
        UnseenRing x = Check.of("hearer at 0 coins 0; hearer at 0 coins 99; hearer at 0 coins 33;");
        C.fraction(x, "he has none", x.share(0), 0, 1);
        C.fraction(x, "without a common divisor", x.share(1), 3, 4);
        C.fraction(x, "without a common divisor", x.share(2), 1, 4);
        x.give(2, 0);
        C.fraction(x, "he has all", x.share(1), 1, 1);
        UnseenRing y = new UnseenRing();
        C.refused(y, "nobody is there", y.share(0), 1);
        UnseenRing z = Check.of("hearer at 0 coins 99;".repeat(6));
        C.fraction(z, "one of six", z.share(5), 1, 6);
    }

    private static void copies() {
        C.sentence("copyCells (1; 2; 3)");
        FULL.refused("copyCells(-1)", 1, x -> x.copyCells(-1));
        FULL.refused("copyCells(4)", 1, x -> x.copyCells(4));
        FULL.refused("copyCells(3)", 2, x -> x.copyCells(3));
        FULL.behind(x -> x.tray(2, 3, 2)).refused("too few", 3, x -> x.copyCells(2));
        FULL.behind(x -> x.tray(2, 3, 0)).refused("none", 3, x -> x.copyCells(2));
        UnseenRing x = Check.of("square 5 by 5; hearer at 24; hearer at 0; hearer at 7;");
        for (int sort = 0; sort < 4; sort++) {
            x.tray(sort, sort, 3);
            C.fine(x, "just enough", x.copyCells(sort), 3);
            C.fine(x, "the first", x.read(sort, 0), 24);
            C.fine(x, "the second", x.read(sort, 1), 0);
            C.fine(x, "the last", x.read(sort, 2), 7);
            C.refused(x, "it is not longer", x.read(sort, 3), 3);
        }
        x.tray(0, 0, 60);
        x.write(0, 3, 99);
        C.fine(x, "more than enough", x.copyCells(0), 3);
        C.fine(x, "what is behind stays", x.read(0, 3), 99);
        UnseenRing y = new UnseenRing();
        C.refused(y, "missing, of nobody", y.copyCells(0), 2);
        y.tray(0, 0, 0);
        C.fine(y, "of nobody", y.copyCells(0), 0);
    }
}
