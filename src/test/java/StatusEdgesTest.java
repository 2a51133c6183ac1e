import java.util.function.Consumer;

/** TRAYS and each STATUS, sentence by sentence: 'Terms', '==== 5', promises 2 to 11. */
public final class StatusEdgesTest {
    private static final Check C = new Check("StatusEdgesTest");
    private static final int LOW = Integer.MIN_VALUE;
    private static final int HIGH = Integer.MAX_VALUE;
    private static final Twin FULL = new Twin(C, Twin.FULL);

    public static void main(String[] args) {
        fullIsFull();
        trays();
        trayCalls();
        writes();
        reads();
        pours();
        pourOrder();
        pourItself();
        texts();
        latestStatus();
        withoutStatus();
        eachStatus();
        nothingChanges();
        extremes();
        C.end();
    }

    /** What the twins are compared by must be there, or nothing would be seen of a change. */
    private static void fullIsFull() {
        C.sentence("the twins of these tests");
        UnseenRing x = new UnseenRing();
        Twin.FULL.accept(x);
        C.due("a fraction", x.bottom() > 1, true);
        C.due("a fault", x.fault(0), 4);
        C.due("its place", x.fault(1), 5);
        C.due("a cup", x.told(7) > 0, true);
        C.due("plays", x.told(8) > 0, true);
        C.due("some are seen", x.told(9) > 0, true);
        C.due("something was lived", x.lived(1) > 0, true);
        C.due("a tray", x.read(0, 3), 8);
        C.due("another", x.read(1, 2), 3);
        C.due("days", x.live(0), 4);
        C.due("marks", x.undo(), 1);
        C.due("other days", x.live(0), 7);
        C.due("a tape", x.feed(0, 0, 0, 0, 0), 40);
        C.due("its text", x.square(20), 1);
    }

    private static void trays() {
        C.sentence("TRAYS 0 to 3 are MISSING at first, or rows of 0 to 60 numbers of 8 bits (sort 0), 16, 32 or 64 (3)");
        long[] least = {Byte.MIN_VALUE, Short.MIN_VALUE, Integer.MIN_VALUE, Long.MIN_VALUE};
        long[] most = {Byte.MAX_VALUE, Short.MAX_VALUE, Integer.MAX_VALUE, Long.MAX_VALUE};
        for (int sort = 0; sort < 4; sort++) {
            UnseenRing x = new UnseenRing();
            C.refused(x, "missing", x.read(sort, 0), 2);
            C.refused(x, "missing", x.write(sort, 0, 1), 2);
            C.fine(x, "tray", x.tray(sort, sort, 60));
            for (int place = 0; place < 60; place++) {
                C.fine(x, "so many 0s", x.read(sort, place), 0);
            }
            C.refused(x, "no 61st", x.read(sort, 60), 3);
            cuts(x, sort, least[sort], least[sort]);
            cuts(x, sort, most[sort], most[sort]);
            cuts(x, sort, least[sort] - 1, most[sort]);
            cuts(x, sort, most[sort] + 1, least[sort]);
            cuts(x, sort, -1, -1);
            cuts(x, sort, 0, 0);
        }
        C.sentence("cut to its sort");
        UnseenRing x = new UnseenRing();
        long number = 0x8182838485868788L;
        long[] cut = {(byte) 0x88, (short) 0x8788, 0x85868788, number};
        for (int sort = 0; sort < 4; sort++) {
            x.tray(0, sort, 1);
            cuts(x, 0, 0, number, cut[sort]);
        }
    }

    private static void cuts(UnseenRing x, int tray, long number, long want) {
        cuts(x, tray, 59, number, want);
    }

    private static void cuts(UnseenRing x, int tray, int place, long number, long want) {
        C.fine(x, "write " + number, x.write(tray, place, number));
        C.fine(x, "read " + number, x.read(tray, place), want);
    }

    private static void trayCalls() {
        C.sentence("tray (1)");
        FULL.refusedFlag("tray(-1, 0, 0)", 1, x -> x.tray(-1, 0, 0));
        FULL.refusedFlag("tray(4, 0, 0)", 1, x -> x.tray(4, 0, 0));
        FULL.refusedFlag("tray(0, -1, 0)", 1, x -> x.tray(0, -1, 0));
        FULL.refusedFlag("tray(0, 4, 0)", 1, x -> x.tray(0, 4, 0));
        FULL.refusedFlag("tray(0, 0, -1)", 1, x -> x.tray(0, 0, -1));
        FULL.refusedFlag("tray(0, 0, 61)", 1, x -> x.tray(0, 0, 61));
        FULL.refusedFlag("tray(0, 0, HIGH)", 1, x -> x.tray(0, 0, HIGH));
        FULL.refusedFlag("tray(LOW, LOW, LOW)", 1, x -> x.tray(LOW, LOW, LOW));
        C.sentence("A TRAY is a row of so many 0s");
        UnseenRing x = new UnseenRing();
        C.fine(x, "tray", x.tray(3, 3, 2));
        x.write(3, 0, 5);
        x.write(3, 1, 6);
        C.fine(x, "the same again", x.tray(3, 3, 2));
        C.fine(x, "a 0", x.read(3, 0), 0);
        C.fine(x, "a 0", x.read(3, 1), 0);
        x.write(3, 1, 6);
        C.fine(x, "shorter", x.tray(3, 0, 1));
        C.refused(x, "no second", x.read(3, 1), 3);
        C.fine(x, "longer", x.tray(3, 1, 2));
        C.fine(x, "a 0", x.read(3, 1), 0);
        C.fine(x, "none", x.tray(3, 2, 0));
        C.refused(x, "no first", x.read(3, 0), 3);
        C.refused(x, "the others are missing", x.read(2, 0), 2);
    }

    private static void writes() {
        C.sentence("write (1, 2, 3)");
        FULL.refusedFlag("write(-1, 0, 1)", 1, x -> x.write(-1, 0, 1));
        FULL.refusedFlag("write(4, 0, 1)", 1, x -> x.write(4, 0, 1));
        FULL.refusedFlag("write(4, 99, 1)", 1, x -> x.write(4, 99, 1));
        FULL.refusedFlag("write(3, 0, 1)", 2, x -> x.write(3, 0, 1));
        FULL.refusedFlag("write(3, 99, 1)", 2, x -> x.write(3, 99, 1));
        FULL.refusedFlag("write(0, 4, 1)", 3, x -> x.write(0, 4, 1));
        FULL.refusedFlag("write(0, 60, 1)", 3, x -> x.write(0, 60, 1));
        FULL.refusedFlag("write(0, -1, 1)", 3, x -> x.write(0, -1, 1));
        FULL.refusedFlag("write(0, HIGH, 1)", 3, x -> x.write(0, HIGH, 1));
        FULL.refusedFlag("write(0, LOW, 1)", 3, x -> x.write(0, LOW, 1));
        FULL.behind(x -> x.tray(0, 0, 0)).refusedFlag("an empty tray", 3, x -> x.write(0, 0, 1));
        UnseenRing x = new UnseenRing();
        x.tray(0, 2, 4);
        C.fine(x, "the first", x.write(0, 0, 7));
        C.fine(x, "the last", x.write(0, 3, 8));
        C.fine(x, "the first", x.read(0, 0), 7);
        C.fine(x, "none in the midst", x.read(0, 1), 0);
        C.fine(x, "none in the midst", x.read(0, 2), 0);
        C.fine(x, "the last", x.read(0, 3), 8);
    }

    private static void reads() {
        C.sentence("read (1, 2, 3); STATUS tells NONE from -1");
        FULL.refused("read(-1, 0)", 1, x -> x.read(-1, 0));
        FULL.refused("read(4, 0)", 1, x -> x.read(4, 0));
        FULL.refused("read(4, 99)", 1, x -> x.read(4, 99));
        FULL.refused("read(3, 0)", 2, x -> x.read(3, 0));
        FULL.refused("read(3, -1)", 2, x -> x.read(3, -1));
        FULL.refused("read(0, 4)", 3, x -> x.read(0, 4));
        FULL.refused("read(0, -1)", 3, x -> x.read(0, -1));
        FULL.refused("read(0, HIGH)", 3, x -> x.read(0, HIGH));
        FULL.refused("read(0, LOW)", 3, x -> x.read(0, LOW));
        FULL.told("read(0, 0)", 5, x -> x.read(0, 0));
        FULL.told("read(0, 3)", 8, x -> x.read(0, 3));
        FULL.behind(x -> x.write(0, 2, -1)).told("a -1", -1, x -> x.read(0, 2));
    }

    private static void row(UnseenRing x, int tray, long... want) {
        for (int i = 0; i < want.length; i++) {
            C.fine(x, "place " + i + " of tray " + tray, x.read(tray, i), want[i]);
        }
        C.refused(x, "it is not longer", x.read(tray, want.length), 3);
    }

    private static void fill(UnseenRing x, int tray, int sort, long... numbers) {
        x.tray(tray, sort, numbers.length);
        for (int i = 0; i < numbers.length; i++) {
            x.write(tray, i, numbers[i]);
        }
    }

    private static void pours() {
        C.sentence("pour: so many numbers of a TRAY, from a place on, come to another one's place on");
        UnseenRing x = new UnseenRing();
        fill(x, 0, 1, 1, 2, 3, 4, 5);
        fill(x, 1, 1, 10, 20, 30);
        C.fine(x, "none", x.pour(0, 0, 1, 0, 0));
        row(x, 1, 10, 20, 30);
        C.fine(x, "none behind the last", x.pour(0, 5, 1, 3, 0));
        row(x, 1, 10, 20, 30);
        C.refused(x, "none behind one more", x.pour(0, 6, 1, 3, 0), 3);
        C.refused(x, "none behind one more", x.pour(0, 5, 1, 4, 0), 3);
        C.fine(x, "the last to the first", x.pour(0, 4, 1, 0, 1));
        row(x, 1, 5, 20, 30);
        C.fine(x, "the first to the last", x.pour(0, 0, 1, 2, 1));
        row(x, 1, 5, 20, 1);
        C.fine(x, "as many as there are", x.pour(0, 2, 1, 0, 3));
        row(x, 1, 3, 4, 5);
        row(x, 0, 1, 2, 3, 4, 5);
        C.refused(x, "one more", x.pour(0, 2, 1, 0, 4), 3);
        C.refused(x, "one more of the other", x.pour(0, 1, 1, 0, 4), 3);
        C.refused(x, "one place on", x.pour(0, 3, 1, 0, 3), 3);
        C.refused(x, "one place on", x.pour(0, 2, 1, 1, 3), 3);
        row(x, 1, 3, 4, 5);
        UnseenRing y = new UnseenRing();
        y.tray(0, 3, 60);
        y.tray(3, 3, 60);
        for (int i = 0; i < 60; i++) {
            y.write(0, i, Long.MIN_VALUE + i);
        }
        C.fine(y, "all sixty", y.pour(0, 0, 3, 0, 60));
        C.fine(y, "the first", y.read(3, 0), Long.MIN_VALUE);
        C.fine(y, "the last", y.read(3, 59), Long.MIN_VALUE + 59);
        C.refused(y, "sixty-one", y.pour(0, 0, 3, 0, 61), 3);
    }

    private static void pourOrder() {
        C.sentence("pour (1: below 0, too; 2; 8; 3; asked in this order)");
        FULL.refusedFlag("from -1", 1, x -> x.pour(-1, 0, 0, 0, 0));
        FULL.refusedFlag("from 4", 1, x -> x.pour(4, 0, 0, 0, 0));
        FULL.refusedFlag("to -1", 1, x -> x.pour(0, 0, -1, 0, 0));
        FULL.refusedFlag("to 4", 1, x -> x.pour(0, 0, 4, 0, 0));
        FULL.refusedFlag("place -1", 1, x -> x.pour(0, -1, 0, 0, 0));
        FULL.refusedFlag("at -1", 1, x -> x.pour(0, 0, 0, -1, 0));
        FULL.refusedFlag("many -1", 1, x -> x.pour(0, 0, 0, 0, -1));
        FULL.refusedFlag("many LOW", 1, x -> x.pour(0, 0, 0, 0, LOW));
        FULL.refusedFlag("1 ahead of 2, from", 1, x -> x.pour(3, 0, 4, 0, 0));
        FULL.refusedFlag("1 ahead of 2, to", 1, x -> x.pour(3, 0, 3, -1, 0));
        FULL.refusedFlag("1 ahead of 8", 1, x -> x.pour(0, 0, 1, 0, -1));
        FULL.refusedFlag("1 ahead of 3", 1, x -> x.pour(0, 99, 0, -1, 0));
        FULL.refusedFlag("from a missing one", 2, x -> x.pour(3, 0, 0, 0, 0));
        FULL.refusedFlag("to a missing one", 2, x -> x.pour(0, 0, 3, 0, 0));
        FULL.refusedFlag("both are", 2, x -> x.pour(3, 0, 3, 0, 0));
        FULL.refusedFlag("2 ahead of 3", 2, x -> x.pour(0, 99, 3, 0, 1));
        FULL.refusedFlag("unlike sorts", 8, x -> x.pour(0, 0, 1, 0, 1));
        FULL.refusedFlag("unlike sorts, none", 8, x -> x.pour(0, 0, 1, 0, 0));
        FULL.refusedFlag("8 ahead of 3", 8, x -> x.pour(0, 99, 1, 99, 99));
        FULL.refusedFlag("8 ahead of 3", 8, x -> x.pour(1, 0, 0, 0, HIGH));
        FULL.refusedFlag("a place it has not", 3, x -> x.pour(0, 4, 0, 0, 1));
        FULL.refusedFlag("a place the other has not", 3, x -> x.pour(0, 0, 0, 4, 1));
        FULL.refusedFlag("too many", 3, x -> x.pour(0, 0, 0, 0, 5));
        FULL.refusedFlag("far too many", 3, x -> x.pour(0, HIGH, 0, HIGH, HIGH));
        FULL.refusedFlag("far too many", 3, x -> x.pour(0, 1, 0, 1, HIGH));
        FULL.refusedFlag("a place far off", 3, x -> x.pour(0, HIGH, 0, 0, 1));
        FULL.told("onto itself", 1, x -> x.pour(0, 1, 0, 1, 3) ? 1 : 0);
    }

    private static void pourItself() {
        C.sentence("(or its own) place on, as they were");
        UnseenRing x = new UnseenRing();
        fill(x, 2, 2, 1, 2, 3, 4, 5);
        C.fine(x, "upwards", x.pour(2, 0, 2, 1, 4));
        row(x, 2, 1, 1, 2, 3, 4);
        fill(x, 2, 2, 1, 2, 3, 4, 5);
        C.fine(x, "downwards", x.pour(2, 1, 2, 0, 4));
        row(x, 2, 2, 3, 4, 5, 5);
        fill(x, 2, 2, 1, 2, 3, 4, 5);
        C.fine(x, "by two", x.pour(2, 0, 2, 2, 3));
        row(x, 2, 1, 2, 1, 2, 3);
    }

    private static void texts() {
        C.sentence("square (1: n below 0, or more than the tape has, too; 9)");
        FULL.refused("square(-1)", 1, x -> x.square(-1));
        FULL.refused("square(LOW)", 1, x -> x.square(LOW));
        FULL.refused("square(21)", 1, x -> x.square(21));
        FULL.refused("square(HIGH)", 1, x -> x.square(HIGH));
        FULL.faulty("square(19)", 2, 19, x -> x.square(19));
        FULL.faulty("square(1)", 2, 0, x -> x.square(1));
        C.sentence("days (1: above 300, too; 9)");
        FULL.refused("days(-1)", 1, x -> x.days(-1));
        FULL.refused("days(21)", 1, x -> x.days(21));
        FULL.refused("days(HIGH)", 1, x -> x.days(HIGH));
        FULL.faulty("days(20)", 2, 0, x -> x.days(20));
        Twin full = FULL.behind(x -> {
            for (int i = 1; i < 45; i++) {
                x.feed(0x20202020, 0x20202020, 0x20202020, 0x20202020, 0x20202020);
            }
        });
        full.refused("square(901)", 1, x -> x.square(901));
        full.refused("days(301)", 1, x -> x.days(301));
        full.refused("days(900)", 1, x -> x.days(900));
        full.faulty("days(300)", 2, 0, x -> x.days(300));
        C.sentence("feed: NONE if there would be more than 900; it has no STATUS");
        full.told("feed", -1, x -> {
            x.told(0);
            return x.feed(0x6f646473, 0, 0, 0, 0);
        });
    }

    private static void latestStatus() {
        C.sentence("STATUS of the latest call that has one");
        UnseenRing x = new UnseenRing();
        C.due("at first", x.status(), 0);
        x.told(11);
        C.due("1", x.status(), 1);
        C.due("asked again", x.status(), 1);
        x.read(0, 0);
        C.due("2", x.status(), 2);
        x.told(0);
        C.due("0 again", x.status(), 0);
        x.brush();
        C.due("7", x.status(), 7);
    }

    /** The five calls that have none leave the STATUS that was, whatever it is. */
    private static void withoutStatus() {
        C.sentence("status(), top(), bottom(), feed(), fault() have none");
        for (int status = 0; status <= 9; status++) {
            UnseenRing x = new UnseenRing();
            Check.feed(x, "odds 17;");
            bring(x, status);
            C.due("status", x.status(), status);
            x.top();
            C.due("behind top()", x.status(), status);
            x.bottom();
            C.due("behind bottom()", x.status(), status);
            x.feed(1, 2, 3, 4, 5);
            C.due("behind feed()", x.status(), status);
            x.fault(0);
            x.fault(1);
            x.fault(2);
            x.fault(-1);
            C.due("behind fault()", x.status(), status);
            for (int i = 0; i < 46; i++) {
                x.feed(1, 2, 3, 4, 5);
            }
            C.due("behind a feed() that gives NONE", x.status(), status);
        }
    }

    /** A call with each STATUS. */
    private static void bring(UnseenRing x, int status) {
        x.tray(0, 0, 1);
        x.tray(1, 1, 1);
        x.write(0, 0, -5);
        Runnable[] calls = {
            () -> x.told(0),
            () -> x.told(11),
            () -> x.read(2, 0),
            () -> x.read(0, 1),
            () -> {
                for (int i = 0; i < 4; i++) {
                    x.mark();
                }
            },
            () -> x.cover(0, 1),
            () -> x.undo(),
            () -> x.brush(),
            () -> x.pour(0, 0, 1, 0, 1),
            () -> x.square(8)};
        calls[status].run();
    }

    /** Of several the first: the pairs that one call can have at once. */
    private static void eachStatus() {
        C.sentence("STATUS of a call is the first of these that holds");
        Consumer<UnseenRing> wrong = x -> fill(x, 0, 0, 0, 99, 0);
        Twin bad = FULL.behind(wrong);
        bad.refused("cover: 1, 2", 1, x -> x.cover(3, 9));
        bad.refused("cover: 1, 3, 5", 1, x -> x.cover(0, 9));
        bad.refused("cover: 3, 5", 3, x -> x.cover(0, 4));
        bad.refused("cover: 5", 5, x -> x.cover(0, 3));
        bad.refused("coverAt: 1, 2", 1, x -> x.coverAt(3, 1, -1));
        bad.refused("coverAt: 1, 3", 1, x -> x.coverAt(0, 4, -1));
        bad.refused("coverAt: 3, 6", 3, x -> x.coverAt(0, 4, 9));
        bad.refused("coverAt: 5, 6", 5, x -> x.coverAt(0, 3, 9));
        bad.refused("coverAt: 2, 6", 2, x -> x.coverAt(3, 3, 9));
        bad.refused("fits: 1, 2", 1, x -> x.fits(9, 3, 1));
        bad.refused("fits: 1, 3", 1, x -> x.fits(9, 0, 2));
        bad.refused("fits: 1, 5", 1, x -> x.fits(9, 0, 1));
        bad.refused("fits: 3, 5", 3, x -> x.fits(0, 0, 2));
        bad.refused("fits: 5", 5, x -> x.fits(0, 0, 1));
        bad.refused("sure: 1, 2", 1, x -> x.sure(0, 3, 21));
        bad.refused("sure: 3, 5", 3, x -> x.sure(0, 0, 2));
        bad.refused("sure: 5", 5, x -> x.sure(0, 0, 1));
        bad.refused("gatherAt: 1, 6", 1, x -> x.gatherAt(4, -1));
        bad.refusedFlag("oddsThat: 1, 6", 1, x -> x.oddsThat(1, 0, 9));
        bad.refused("lived: 1", 1, x -> x.lived(9));
        bad.refused("play: 1", 1, x -> x.play(3));
        bad.refusedFlag("write: 1, 2, 3", 1, x -> x.write(9, 99, 0));
        bad.refusedFlag("write: 2, 3", 2, x -> x.write(3, 99, 0));
        Twin nobody = new Twin(C, x -> x.mark());
        nobody.refused("live: 1, 6", 1, x -> x.live(-1));
        nobody.refused("live: 6", 6, x -> x.live(0));
        nobody.refusedFlag("mean: 1, 6", 1, x -> x.mean(0, 0));
        nobody.refusedFlag("mean: 6", 6, x -> x.mean(0, 1));
        nobody.refused("lived: 1, 6", 1, x -> x.lived(5));
        nobody.refused("lived: 6", 6, x -> x.lived(4));
        nobody.refused("moveOf: 1, 6", 1, x -> x.moveOf(5));
        nobody.refused("moveOf: 6", 6, x -> x.moveOf(1));
        nobody.refusedFlag("share: 1, 6", 1, x -> x.share(0));
        nobody.refused("copyCells: 1", 1, x -> x.copyCells(4));
        nobody.refused("copyCells: 2", 2, x -> x.copyCells(0));
        nobody.refused("rounds: 1, 6", 1, x -> x.rounds(1, 9));
    }

    /** What is asked ahead changes nothing: all that '==== 3' tells of, with STATUS 0. */
    private static void nothingChanges() {
        C.sentence("All ahead is as all is now; nothing changes by it");
        FULL.told("takings", 4, x -> answer(x, x.takings(0, 20) > 0));
        FULL.told("pitch", 4, x -> answer(x, x.pitch(8, 0, 20) > 0));
        FULL.told("bestPitch", 4, x -> answer(x, x.bestPitch(0, 20) >= 0));
        FULL.told("soon", 4, x -> answer(x, x.soon(0) >= 0));
        FULL.told("gather", 4, x -> answer(x, x.gather(3) > 0));
        FULL.told("gatherAt", 4, x -> answer(x, x.gatherAt(3, 0) >= 0));
        FULL.told("explain", 4, x -> answer(x, x.explain(3) > 0));
        FULL.told("placings", 4, x -> answer(x, x.placings(3, 2) > 0));
        FULL.told("aim", 4, x -> answer(x, x.aim(3, 2) >= 0));
        FULL.told("cover", 4, x -> answer(x, x.cover(1, 2) > 0));
        FULL.told("coverAt", 4, x -> answer(x, x.coverAt(1, 2, 0) >= 0));
        FULL.told("fits", 4, x -> answer(x, x.fits(2, 1, 1) >= 0));
        FULL.told("sure", 4, x -> answer(x, x.sure(2, 0, 0) >= 0));
        FULL.told("rounds", 4, x -> answer(x, x.rounds(7, 8) > 0));
        FULL.told("knowers", 4, x -> answer(x, x.knowers(7, 8, 3) > 0));
        FULL.told("game", 4, x -> answer(x, x.game(4) >= 0));
        FULL.told("moveOf", 4, x -> answer(x, x.moveOf(4) >= 0));
        FULL.told("told", 9, x -> x.told(0) * x.told(1));
        FULL.told("hearer", 6, x -> x.hearer(2, 0));
        FULL.told("dog", 8, x -> x.dog(1, 0));
        FULL.told("lived", 0, x -> x.lived(4));
    }

    private static long answer(UnseenRing x, boolean isRight) {
        return isRight && x.status() == 0 ? 4 : 0;
    }

    /** The least and the most ints in every place: 1, or what stands beside it. */
    private static void extremes() {
        C.sentence("1 a number that can't be");
        int[] ends = {LOW, HIGH};
        for (int end : ends) {
            FULL.refused("told", 1, x -> x.told(end));
            FULL.refused("hearer", 1, x -> x.hearer(end, 0));
            FULL.refused("hearer", 1, x -> x.hearer(0, end));
            FULL.refused("dog", 1, x -> x.dog(end, 0));
            FULL.refused("cell", 1, x -> x.cell(end, 0));
            FULL.refused("likers", 1, x -> x.likers(end));
            FULL.refused("play", 1, x -> x.play(end));
            FULL.refused("grind", 1, x -> x.grind(end));
            FULL.refused("throwAt", 1, x -> x.throwAt(end));
            FULL.refused("send", 1, x -> x.send(end, 0));
            FULL.refused("send", 1, x -> x.send(0, end));
            FULL.refused("give", 1, x -> x.give(end, 0));
            FULL.refused("give", 1, x -> x.give(0, end));
            FULL.refusedFlag("teach", 1, x -> x.teach(end, 0, true));
            FULL.refusedFlag("teach", 1, x -> x.teach(0, end, true));
            FULL.refused("come", 1, x -> x.come(end));
            FULL.refusedFlag("rule", 1, x -> x.rule(end));
            FULL.refused("takings", 1, x -> x.takings(end, 0));
            FULL.refused("takings", 1, x -> x.takings(0, end));
            FULL.refused("pitch", 1, x -> x.pitch(end, 0, 0));
            FULL.refused("bestPitch", 1, x -> x.bestPitch(0, end));
            FULL.refused("soon", 1, x -> x.soon(end));
            FULL.refused("gather", 1, x -> x.gather(end));
            FULL.refused("explain", 1, x -> x.explain(end));
            FULL.refused("placings", 1, x -> x.placings(0, end));
            FULL.refusedFlag("oddsThat", 1, x -> x.oddsThat(0, 1, end));
            FULL.refused("aim", 1, x -> x.aim(end, 1));
            FULL.refused("cover", 1, x -> x.cover(end, 0));
            FULL.refused("cover", 1, x -> x.cover(0, end));
            FULL.refused("fits", 1, x -> x.fits(end, 0, 0));
            FULL.refused("fits", 1, x -> x.fits(0, 0, end));
            FULL.refused("rounds", 1, x -> x.rounds(1, end));
            FULL.refused("knowers", 1, x -> x.knowers(1, 1, end));
            FULL.refused("game", 1, x -> x.game(end));
            FULL.refused("moveOf", 1, x -> x.moveOf(end));
            FULL.refusedFlag("crowd", 1, x -> x.crowd(end));
            FULL.refusedFlag("share", 1, x -> x.share(end));
            FULL.refused("copyCells", 1, x -> x.copyCells(end));
            FULL.refused("live", 1, x -> x.live(end));
            FULL.refused("lived", 1, x -> x.lived(end));
            FULL.refusedFlag("mean", 1, x -> x.mean(end, 1));
            FULL.refusedFlag("mean", 1, x -> x.mean(0, end));
        }
    }
}
