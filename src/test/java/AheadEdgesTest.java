import java.util.function.Consumer;

/** What comes and where they are, sentence by sentence: the first half of '==== 3', promises 28 to 39. */
public final class AheadEdgesTest {
    private static final Check C = new Check("AheadEdgesTest");
    private static final int LOW = Integer.MIN_VALUE;
    private static final int HIGH = Integer.MAX_VALUE;
    private static final Twin FULL = new Twin(C, Twin.FULL);

    public static void main(String[] args) {
        takings();
        pitches();
        bestPitches();
        soons();
        gathers();
        gatherRows();
        explains();
        placings();
        oddsThat();
        aims();
        covers();
        coverRows();
        coverTrays();
        C.end();
    }

    private static void takings() {
        C.sentence("TAKINGS of a TUNE and n PLAYS (0 to 20)");
        FULL.refused("takings(0, -1)", 1, x -> x.takings(0, -1));
        FULL.refused("takings(0, 21)", 1, x -> x.takings(0, 21));
        FULL.refused("takings(-1, 0)", 1, x -> x.takings(-1, 0));
        FULL.refused("takings(3, 0)", 1, x -> x.takings(3, 0));
        FULL.told("takings(0, 0)", 0, x -> x.takings(0, 0));
        FULL.told("takings of a tune that nobody likes", 0, x -> x.takings(2, 20));
        UnseenRing x = Check.of("square 5 by 5; tune a; hearer at 24 coins 99 likes a; hearer at 0 coins 5 likes a;"
                + "hearer at 0 coins 99;");
        // one is FAR by 8: from the ninth PLAY on he gives; the other gives five times
        int[] want = {0, 1, 2, 3, 4, 5, 5, 5, 5, 6, 7};
        for (int n = 0; n < want.length; n++) {
            C.fine(x, "takings(0, " + n + ")", x.takings(0, n), want[n]);
        }
        C.fine(x, "takings(0, 20)", x.takings(0, 20), 17);
        C.refused(x, "takings(0, 21)", x.takings(0, 21), 1);
        x.give(0, 0);
        C.fine(x, "who has none gives none", x.takings(0, 20), 5);
    }

    private static void pitches() {
        C.sentence("PITCH: likewise, if the ORGAN was in a CELL");
        FULL.refused("pitch(-1, 0, 0)", 1, x -> x.pitch(-1, 0, 0));
        FULL.refused("pitch(9, 0, 0)", 1, x -> x.pitch(9, 0, 0));
        FULL.refused("pitch(0, -1, 0)", 1, x -> x.pitch(0, -1, 0));
        FULL.refused("pitch(0, 3, 0)", 1, x -> x.pitch(0, 3, 0));
        FULL.refused("pitch(0, 0, -1)", 1, x -> x.pitch(0, 0, -1));
        FULL.refused("pitch(0, 0, 21)", 1, x -> x.pitch(0, 0, 21));
        FULL.told("pitch(8, 2, 20)", 0, x -> x.pitch(8, 2, 20));
        UnseenRing x = Check.of("square 5 by 5; organ 12; tune a; hearer at 24 coins 99 likes a;");
        C.fine(x, "from the last cell", x.pitch(24, 0, 20), 20);
        C.fine(x, "from the first cell", x.pitch(0, 0, 20), 12);
        C.fine(x, "from where it is", x.pitch(12, 0, 20), 16);
        C.fine(x, "likewise", x.takings(0, 20), 16);
        C.fine(x, "the organ stays", x.told(6), 12);
        C.refused(x, "one behind the last", x.pitch(25, 0, 20), 1);
    }

    private static void bestPitches() {
        C.sentence("the BEST PITCH: the CELL with the most, of several the first");
        FULL.refused("bestPitch(-1, 0)", 1, x -> x.bestPitch(-1, 0));
        FULL.refused("bestPitch(3, 0)", 1, x -> x.bestPitch(3, 0));
        FULL.refused("bestPitch(0, -1)", 1, x -> x.bestPitch(0, -1));
        FULL.refused("bestPitch(0, 21)", 1, x -> x.bestPitch(0, 21));
        FULL.told("nothing comes: the first", 0, x -> x.bestPitch(2, 20));
        FULL.told("no play: the first", 0, x -> x.bestPitch(0, 0));
        UnseenRing x = Check.of("square 5 by 5; tune a; hearer at 24 coins 99 likes a;");
        C.fine(x, "the last cell", x.bestPitch(0, 1), 24);
        C.fine(x, "the last cell", x.bestPitch(0, 20), 24);
        x.give(0, 1);
        C.fine(x, "one coin by two plays: 19, 23, 24 are as good", x.bestPitch(0, 2), 19);
        C.fine(x, "by nine plays all are", x.bestPitch(0, 9), 0);
        C.fine(x, "by eight all but 0 are", x.bestPitch(0, 8), 1);
        x.come(0);
        x.teach(1, 0, true);
        x.give(0, 99);
        x.give(1, 99);
        C.fine(x, "two corners by 3 plays: 3 from each: the first", x.bestPitch(0, 3), 0);
    }

    private static void soons() {
        C.sentence("soon (1; 6: he LIKES nothing and is not)");
        FULL.refused("soon(-1)", 1, x -> x.soon(-1));
        FULL.refused("soon(3)", 1, x -> x.soon(3));
        FULL.refused("soon(2)", 6, x -> x.soon(2));
        FULL.behind(x -> x.grind(6)).told("he likes nothing, but is there", 0, x -> x.soon(2));
        UnseenRing x = Check.of("square 5 by 5; tune a; hearer at 24 likes a; hearer at 1 likes a; hearer at 0 likes a;");
        C.fine(x, "the farthest", x.soon(0), 8);
        C.fine(x, "beside", x.soon(1), 1);
        C.fine(x, "there", x.soon(2), 0);
        C.refused(x, "no such", x.soon(3), 1);
    }

    private static void gathers() {
        C.sentence("GATHER of one to three HEARERS (1: none, above three, too; 6: by no row)");
        FULL.refused("gather(0)", 1, x -> x.gather(0));
        FULL.refused("gather(8)", 1, x -> x.gather(8));
        FULL.refused("gather(9)", 1, x -> x.gather(9));
        FULL.refused("gather(-1)", 1, x -> x.gather(-1));
        FULL.refused("gather(LOW)", 1, x -> x.gather(LOW));
        FULL.refused("by no row", 6, x -> x.gather(4));
        FULL.refused("by no row", 6, x -> x.gather(7));
        FULL.refused("gatherAt(0, 0)", 1, x -> x.gatherAt(0, 0));
        FULL.refused("gatherAt(8, 0)", 1, x -> x.gatherAt(8, 0));
        FULL.refused("gatherAt(1, -1)", 1, x -> x.gatherAt(1, -1));
        FULL.refused("gatherAt(1, LOW)", 1, x -> x.gatherAt(1, LOW));
        FULL.refused("gatherAt(4, -1)", 1, x -> x.gatherAt(4, -1));
        FULL.refused("gatherAt(4, 0)", 6, x -> x.gatherAt(4, 0));
        FULL.refused("gatherAt(1, 100)", 6, x -> x.gatherAt(1, 100));
        FULL.refused("gatherAt(1, HIGH)", 6, x -> x.gatherAt(1, HIGH));
        UnseenRing x = Check.of("tune a; tune b;" + "hearer at 1 likes a;".repeat(2) + "hearer at 1 likes b;".repeat(2)
                + "hearer at 0;".repeat(2));
        for (int set = -1; set <= 64; set++) {
            int many = Integer.bitCount(set);
            if (set < 1 || set > 63 || many > 3) {
                C.refused(x, "gather(" + set + ")", x.gather(set), 1);
                C.refused(x, "gatherAt(" + set + ", 0)", x.gatherAt(set, 0), 1);
            } else {
                int tunes = ((set & 3) != 0 ? 1 : 0) + ((set & 12) != 0 ? 1 : 0);
                C.fine(x, "gather(" + set + ")", x.gather(set), tunes);
                C.refused(x, "gatherAt(" + set + ") behind the last", x.gatherAt(set, tunes), 6);
            }
        }
        C.refused(x, "gather(-64)", x.gather(-64), 1);
        UnseenRing y = Check.of("hearer at 0; hearer at 1;");
        C.fine(y, "without tunes one is there", y.gather(1), 0);
        C.refused(y, "the other is not", y.gather(2), 6);
    }

    private static void row(UnseenRing x, int hearers, int... tunes) {
        C.fine(x, "gather(" + hearers + ")", x.gather(hearers), tunes.length);
        for (int k = 0; k < tunes.length; k++) {
            C.fine(x, "gatherAt(" + hearers + ", " + k + ")", x.gatherAt(hearers, k), tunes[k]);
        }
        C.refused(x, "gatherAt behind the last", x.gatherAt(hearers, tunes.length), 6);
        C.refused(x, "gatherAt ahead of the first", x.gatherAt(hearers, -1), 1);
    }

    private static void gatherRows() {
        C.sentence("the shortest row of TUNES; of several the first by TUNES, one by one");
        UnseenRing x = Check.of("square 5 by 5; tune a; tune b; tune c; hearer at 2 likes a b c; hearer at 1 likes c;"
                + "hearer at 3 likes b c; hearer at 1 likes a; hearer at 24 likes c; hearer at 0 likes b;");
        row(x, 1, 0, 0);
        row(x, 2, 2);
        row(x, 1 + 2, 0, 2);
        row(x, 4, 1, 1, 1);
        row(x, 4 + 2, 1, 1, 2);
        row(x, 2 + 8, 0, 2);
        row(x, 1 + 2 + 8, 0, 2);
        row(x, 1 + 4 + 8, 0, 1, 1, 1);
        row(x, 16, 2, 2, 2, 2, 2, 2, 2, 2);
        row(x, 32);
        row(x, 32 + 2, 2);
        row(x, 1 + 2 + 16, 2, 2, 2, 2, 2, 2, 2, 2);
        row(x, 2 + 8 + 16, 0, 2, 2, 2, 2, 2, 2, 2, 2);
        row(x, 1 + 4 + 16, 2, 2, 2, 2, 2, 2, 2, 2);
        C.sentence("behind which all of them are: who is there stays");
        row(x, 32 + 4 + 2, 1, 1, 2);
        UnseenRing y = Check.of("square 5 by 5; tune a; tune b; tune c; hearer at 24 likes a; hearer at 24 likes b;"
                + "hearer at 24 likes c;");
        C.fine(y, "the longest row", y.gather(7), 24);
        for (int k = 0; k < 24; k++) {
            C.fine(y, "gatherAt(7, " + k + ")", y.gatherAt(7, k), k / 8);
        }
        C.refused(y, "gatherAt(7, 24)", y.gatherAt(7, 24), 6);
        C.fine(y, "nobody went", y.hearer(0, 0), 24);
        C.fine(y, "nothing was played", y.told(8), 0);
    }

    private static void explains() {
        C.sentence("EXPLAIN (1; 6: by no set)");
        FULL.refused("explain(-1)", 1, x -> x.explain(-1));
        FULL.refused("explain(4)", 1, x -> x.explain(4));
        FULL.refused("explain(LOW)", 1, x -> x.explain(LOW));
        FULL.told("no dog: nobody", 0, x -> x.explain(0));
        FULL.told("both", 2, x -> x.explain(3));
        FULL.behind(x -> {
            x.square(0);
            Check.square(x, "dog at 3; dog at 3;");
        }).refused("one of two in a cell", 6, x -> x.explain(1));
        UnseenRing x = new UnseenRing();
        C.fine(x, "without dogs", x.explain(0), 0);
        C.refused(x, "without dogs", x.explain(1), 1);
        C.sentence("the fewest CELLS (any number)");
        UnseenRing y = Check.of("square 5 by 5; dog at 0; dog at 4; dog at 20; dog at 24;");
        int[] many = {0, 1, 1, 2, 1, 2, 2, 3, 1, 2, 2, 3, 2, 3, 3, 4};
        for (int set = 0; set < 16; set++) {
            C.fine(y, "explain(" + set + ")", y.explain(set), many[set]);
        }
        C.refused(y, "explain(16)", y.explain(16), 1);
        UnseenRing z = Check.of("square 3 by 1; dog at 0; dog at 2;");
        C.fine(z, "one in the midst gets both up", z.explain(3), 1);
        C.fine(z, "one alone", z.explain(1), 1);
        UnseenRing w = Check.of("square 2 by 1; dog at 0; dog at 1;");
        C.refused(w, "one alone never", w.explain(1), 6);
        C.refused(w, "the other neither", w.explain(2), 6);
        C.fine(w, "both", w.explain(3), 1);
    }

    private static void placings() {
        C.sentence("PLACINGS of a set of DOGS and k (0 to 4) (1)");
        FULL.refused("placings(-1, 0)", 1, x -> x.placings(-1, 0));
        FULL.refused("placings(4, 0)", 1, x -> x.placings(4, 0));
        FULL.refused("placings(0, -1)", 1, x -> x.placings(0, -1));
        FULL.refused("placings(0, 5)", 1, x -> x.placings(0, 5));
        FULL.told("nobody: no dog", 1, x -> x.placings(0, 0));
        FULL.told("nobody: a dog", 0, x -> x.placings(1, 0));
        FULL.told("four", 126 - 15 - 5, x -> x.placings(3, 4));
        UnseenRing x = Check.of("square 5 by 5;");
        int[] ways = {1, 25, 300, 2300, 12650};
        for (int k = 0; k <= 4; k++) {
            C.fine(x, "of 25 cells " + k, x.placings(0, k), ways[k]);
        }
        C.refused(x, "of 25 cells 5", x.placings(0, 5), 1);
        UnseenRing y = Check.of("square 1 by 3;");
        int[] few = {1, 3, 3, 1, 0};
        for (int k = 0; k <= 4; k++) {
            C.fine(y, "of 3 cells " + k, y.placings(0, k), few[k]);
        }
        UnseenRing z = Check.of("square 1 by 1; dog at 0;");
        int[] up = {0, 1, 0, 0, 0};
        for (int k = 0; k <= 4; k++) {
            C.fine(z, "of one cell " + k, z.placings(1, k), up[k]);
            C.fine(z, "of one cell none, " + k, z.placings(0, k), k == 0 ? 1 : 0);
        }
        C.sentence("just these DOGS would be UP");
        // three cells by each dog, thirteen by none
        UnseenRing v = Check.of("square 5 by 5; dog at 0; dog at 4; dog at 20; dog at 24;");
        int[][] just = {{1, 13, 78, 286, 715}, {0, 3, 42, 274, 1105}, {0, 0, 9, 135, 951}, {0, 0, 0, 27, 432},
            {0, 0, 0, 0, 81}};
        for (int set = 0; set < 16; set++) {
            for (int k = 0; k <= 4; k++) {
                C.fine(v, "placings(" + set + ", " + k + ")", v.placings(set, k), just[Integer.bitCount(set)][k]);
            }
        }
        C.sentence("if HEARERS were in these alone: who is there does not count");
        UnseenRing w = Check.of("square 3 by 1; dog at 0;");
        C.fine(w, "placings", w.placings(1, 1), 2);
        w.come(0);
        C.fine(w, "placings", w.placings(1, 1), 2);
        C.fine(w, "placings", w.placings(0, 1), 1);
        C.fine(w, "explain", w.explain(0), 0);
    }

    private static void oddsThat() {
        C.sentence("ODDS THAT one is in a CELL (1; 6: there are no PLACINGS)");
        FULL.refusedFlag("oddsThat(-1, 1, 0)", 1, x -> x.oddsThat(-1, 1, 0));
        FULL.refusedFlag("oddsThat(4, 1, 0)", 1, x -> x.oddsThat(4, 1, 0));
        FULL.refusedFlag("oddsThat(1, -1, 0)", 1, x -> x.oddsThat(1, -1, 0));
        FULL.refusedFlag("oddsThat(1, 5, 0)", 1, x -> x.oddsThat(1, 5, 0));
        FULL.refusedFlag("oddsThat(1, 1, -1)", 1, x -> x.oddsThat(1, 1, -1));
        FULL.refusedFlag("oddsThat(1, 1, 9)", 1, x -> x.oddsThat(1, 1, 9));
        FULL.refusedFlag("oddsThat(1, 0, 9)", 1, x -> x.oddsThat(1, 0, 9));
        FULL.refusedFlag("oddsThat(1, 0, 0)", 6, x -> x.oddsThat(1, 0, 0));
        UnseenRing x = Check.of("square 3 by 1; dog at 0;");
        C.fraction(x, "nobody", x.oddsThat(0, 0, 2), 0, 1);
        C.fraction(x, "in all", x.oddsThat(0, 1, 2), 1, 1);
        C.fraction(x, "in none", x.oddsThat(0, 1, 1), 0, 1);
        C.fraction(x, "in one of two", x.oddsThat(1, 1, 1), 1, 2);
        C.fraction(x, "in two of three", x.oddsThat(1, 2, 0), 2, 3);
        C.fraction(x, "all three cells", x.oddsThat(1, 3, 0), 1, 1);
        C.refused(x, "four of three cells", x.oddsThat(1, 4, 0), 6);
        C.due("the fraction stays", x.top(), 1);
        UnseenRing y = Check.of("square 5 by 5;");
        C.fraction(y, "4 of 25", y.oddsThat(0, 4, 24), 4, 25);
        C.refused(y, "no such cell", y.oddsThat(0, 4, 25), 1);
        C.sentence("0 is 0 by 1");
        C.fraction(y, "nobody", y.oddsThat(0, 0, 24), 0, 1);
    }

    private static void aims() {
        C.sentence("AIM (1; 6: there are no PLACINGS)");
        FULL.refused("aim(-1, 1)", 1, x -> x.aim(-1, 1));
        FULL.refused("aim(4, 1)", 1, x -> x.aim(4, 1));
        FULL.refused("aim(1, -1)", 1, x -> x.aim(1, -1));
        FULL.refused("aim(1, 5)", 1, x -> x.aim(1, 5));
        FULL.refused("aim(1, 0)", 6, x -> x.aim(1, 0));
        FULL.told("the dog's cell", 1, x -> x.aim(1, 1));
        C.sentence("of several the first");
        UnseenRing x = Check.of("square 5 by 5;");
        C.fine(x, "nobody is hit anywhere", x.aim(0, 0), 0);
        C.fine(x, "the first with five cells", x.aim(0, 1), 6);
        C.fine(x, "the first with five cells", x.aim(0, 4), 6);
        UnseenRing y = Check.of("square 2 by 2;");
        C.fine(y, "all are as good", y.aim(0, 1), 0);
        UnseenRing z = Check.of("square 5 by 1; dog at 4;");
        C.fine(z, "the midst of what can be", z.aim(0, 1), 1);
        C.fine(z, "3 and 4 hit both", z.aim(1, 1), 3);
        C.refused(z, "five of five", z.aim(1, 5), 1);
        UnseenRing w = Check.of("square 1 by 2; dog at 0;");
        C.refused(w, "nobody who wakes no dog", w.aim(0, 1), 6);
        C.refused(w, "three of two cells", w.aim(1, 3), 6);
        C.fine(w, "two of two cells", w.aim(1, 2), 0);
        UnseenRing v = Check.of("square 5 by 5; dog at 6;");
        C.fine(v, "the last that hits most is not taken", v.aim(1, 1), 6);
    }

    /** A tray 0 of a sort with these numbers. */
    private static Consumer<UnseenRing> tray(int sort, long... numbers) {
        return x -> {
            x.tray(0, sort, numbers.length);
            for (int i = 0; i < numbers.length; i++) {
                x.write(0, i, numbers[i]);
            }
        };
    }

    private static void covers() {
        C.sentence("COVER of a TRAY: the first n (0 to 8) numbers (1; 2; 3; 5)");
        Twin eight = FULL.behind(tray(1, 0, 1, 2, 3, 4, 5, 6, 7, 8));
        eight.refused("cover(-1, 0)", 1, x -> x.cover(-1, 0));
        eight.refused("cover(4, 0)", 1, x -> x.cover(4, 0));
        eight.refused("cover(0, -1)", 1, x -> x.cover(0, -1));
        eight.refused("cover(0, 9)", 1, x -> x.cover(0, 9));
        eight.refused("cover(3, 9)", 1, x -> x.cover(3, 9));
        eight.refused("cover(3, 0)", 2, x -> x.cover(3, 0));
        eight.refused("cover(3, 8)", 2, x -> x.cover(3, 8));
        eight.refused("cover(1, 4)", 3, x -> x.cover(1, 4));
        eight.told("cover(1, 3)", 2, x -> x.cover(1, 3));
        eight.told("cover(0, 0)", 0, x -> x.cover(0, 0));
        eight.told("cover(0, 1)", 1, x -> x.cover(0, 1));
        eight.told("cover(0, 8)", 3, x -> x.cover(0, 8));
        eight.refused("coverAt(-1, 0, 0)", 1, x -> x.coverAt(-1, 0, 0));
        eight.refused("coverAt(4, 0, 0)", 1, x -> x.coverAt(4, 0, 0));
        eight.refused("coverAt(0, -1, 0)", 1, x -> x.coverAt(0, -1, 0));
        eight.refused("coverAt(0, 9, 0)", 1, x -> x.coverAt(0, 9, 0));
        eight.refused("coverAt(0, 8, -1)", 1, x -> x.coverAt(0, 8, -1));
        eight.refused("coverAt(3, 8, -1)", 1, x -> x.coverAt(3, 8, -1));
        eight.refused("coverAt(3, 0, 0)", 2, x -> x.coverAt(3, 0, 0));
        eight.refused("coverAt(1, 4, 0)", 3, x -> x.coverAt(1, 4, 0));
        eight.refused("coverAt(1, 4, 9)", 3, x -> x.coverAt(1, 4, 9));
        eight.refused("coverAt(0, 0, 0)", 6, x -> x.coverAt(0, 0, 0));
        eight.refused("coverAt(0, 8, 3)", 6, x -> x.coverAt(0, 8, 3));
        eight.refused("coverAt(0, 8, HIGH)", 6, x -> x.coverAt(0, 8, HIGH));
    }

    private static void coverTrays() {
        C.sentence("5 a number in a TRAY that can't be");
        long[] cant = {-1, 9, 127, -128};
        for (long number : cant) {
            Twin wrong = FULL.behind(tray(0, 8, 0, number));
            wrong.refused("cover with " + number, 5, x -> x.cover(0, 3));
            wrong.refused("coverAt with " + number, 5, x -> x.coverAt(0, 3, 0));
            wrong.refused("coverAt behind its last with " + number, 5, x -> x.coverAt(0, 3, 9));
            wrong.refused("coverAt with k below 0 and " + number, 1, x -> x.coverAt(0, 3, -1));
            wrong.refused("too few numbers ahead of " + number, 3, x -> x.cover(0, 4));
            wrong.told("behind the first n it does not count: " + number, 2, x -> x.cover(0, 2));
        }
        long[] wide = {1L << 32, Long.MIN_VALUE, Long.MAX_VALUE, -1, 9};
        for (long number : wide) {
            FULL.behind(tray(3, number)).refused("cover with " + number, 5, x -> x.cover(0, 1));
        }
        UnseenRing x = Check.of("square 1 by 1;");
        tray(3, 0, 1).accept(x);
        C.fine(x, "the only cell", x.cover(0, 1), 1);
        C.refused(x, "no other", x.cover(0, 2), 5);
        x.tray(1, 0, 0);
        C.fine(x, "an empty tray", x.cover(1, 0), 0);
        C.refused(x, "too few in an empty tray", x.cover(1, 1), 3);
    }

    private static void rowOf(String square, long[] wanted, int... cells) {
        UnseenRing x = Check.of(square);
        tray(2, wanted).accept(x);
        int n = wanted.length;
        C.fine(x, "cover", x.cover(0, n), cells.length);
        for (int k = 0; k < cells.length; k++) {
            C.fine(x, "coverAt " + k, x.coverAt(0, n, k), cells[k]);
        }
        C.refused(x, "coverAt behind the last", x.coverAt(0, n, cells.length), 6);
        C.refused(x, "coverAt ahead of the first", x.coverAt(0, n, -1), 1);
    }

    private static void coverRows() {
        C.sentence("of several rows of CELLS in rising order the first, one by one");
        String five = "square 5 by 5;";
        rowOf(five, new long[] {24}, 19);
        rowOf(five, new long[] {0}, 0);
        rowOf(five, new long[] {12}, 7);
        rowOf(five, new long[] {12, 12, 12}, 7);
        rowOf(five, new long[] {0, 2}, 1);
        rowOf(five, new long[] {0, 24}, 0, 19);
        rowOf(five, new long[] {24, 0}, 0, 19);
        rowOf(five, new long[] {0, 4, 20, 24}, 0, 3, 15, 19);
        rowOf(five, new long[] {6, 8}, 7);
        rowOf(five, new long[] {24, 22, 20, 14, 12, 10, 4, 0}, 0, 3, 11, 19, 21);
        UnseenRing x = Check.of(five);
        tray(0, 0, 4, 20).accept(x);
        C.fine(x, "three corners", x.cover(0, 3), 3);
        tray(0, 24).accept(x);
        C.fine(x, "then another alone", x.cover(0, 1), 1);
        C.fine(x, "then another alone", x.coverAt(0, 1, 0), 19);
        rowOf("square 5 by 1;", new long[] {0, 1, 2, 3, 4}, 0, 3);
        rowOf("square 1 by 1;", new long[] {0, 0}, 0);
        rowOf("square 5 by 5;", new long[] {});
    }
}
