/** The text of DAYS, sentence by sentence: '==== 4', promises 11 and 12. */
public final class DaysTextEdgesTest {
    private static final Check C = new Check("DaysTextEdgesTest");
    private static final int LOW = Integer.MIN_VALUE;
    private static final int HIGH = Integer.MAX_VALUE;
    /** Six CELLS, two TUNES, two HEARERS, one DOG. */
    private static final String BASE =
            "square 3 by 2; tune a; tune abcdefgh; hearer at 0; hearer at 5 likes a; dog at 1;";

    public static void main(String[] args) {
        length();
        tokens();
        stepsAlone();
        leftOut();
        theEnd();
        names();
        cells();
        hearersAndDogs();
        cupAndFar();
        compares();
        loops();
        ends();
        manySteps();
        deep();
        firstFault();
        ofNobody();
        daysStay();
        readAnew();
        C.end();
    }

    private static UnseenRing fine(String text, int steps) {
        UnseenRing x = Check.of(BASE);
        C.fine(x, text, Check.days(x, text), steps);
        C.due("fault(0) of " + text, x.fault(0), 0);
        C.due("fault(1) of " + text, x.fault(1), -1);
        C.due("the tape is empty behind " + text, x.feed(0, 0, 0, 0, 0), 20);
        C.due("the square stays behind " + text, x.told(3), 2);
        return x;
    }

    /** A text with a FAULT where ^ stands; the old DAYS stay. */
    private static void fault(String marked, int kind) {
        int place = marked.indexOf('^');
        faultAt(marked.substring(0, place) + marked.substring(place + 1), kind, place);
    }

    private static void faultAt(String text, int kind, int place) {
        UnseenRing x = Check.of(BASE);
        Check.days(x, "grind 1; grind 2; grind 3;");
        C.refused(x, text, Check.days(x, text), 9);
        C.due("fault(0) of " + text, x.fault(0), kind);
        C.due("fault(1) of " + text, x.fault(1), place);
        C.due("the tape is empty behind " + text, x.feed(0, 0, 0, 0, 0), 20);
        C.due("the square stays behind " + text, x.told(3), 2);
        C.due("the old days stay behind " + text, x.live(0), 3);
        C.due("the organ behind " + text, x.told(6), 3);
    }

    private static void length() {
        C.sentence("DAYS are a TEXT of at most 300 bytes; 1: above 300, too");
        String blanks = " ".repeat(296);
        fine(blanks + "any;", 1);
        fine("any;" + blanks, 1);
        faultAt(blanks + " any", 2, 300);
        faultAt(blanks + "any?", 1, 299);
        UnseenRing x = Check.of(BASE);
        Check.feed(x, blanks + "any; ");
        C.refused(x, "days(301)", x.days(301), 1);
        C.refused(x, "days(320)", x.days(320), 1);
        C.refused(x, "days(321)", x.days(321), 1);
        C.refused(x, "days(HIGH)", x.days(HIGH), 1);
        C.refused(x, "days(-1)", x.days(-1), 1);
        C.refused(x, "days(LOW)", x.days(LOW), 1);
        C.refused(x, "no days yet", x.live(0), 6);
        C.due("fault as it was", x.fault(0), 0);
        C.fine(x, "the tape was not emptied: days(300)", x.days(300), 1);
        C.due("then it is", x.feed(0, 0, 0, 0, 0), 20);
        C.refused(x, "more than the tape has", x.days(21), 1);
        C.sentence("The first n bytes of the tape");
        C.refused(x, "bytes that are no blanks", x.days(1), 9);
        Check.feed(x, "any; any; ?");
        C.fine(x, "days(9)", x.days(9), 2);
        Check.feed(x, "any; any; ?");
        C.refused(x, "days(8)", x.days(8), 9);
        C.due("place", x.fault(1), 8);
        C.refused(x, "an empty tape has no byte", x.days(1), 1);
        C.sentence("DAYS: {STEP}: any number, none too");
        fine("", 0);
        fine(" \n ", 0);
        C.fine(x, "days(0)", x.days(0), 0);
    }

    private static void tokens() {
        C.sentence("of such TOKENS: 1, 2 as above");
        fine("play\na\n;\n", 1);
        fine("play a;grind0;send1 5;", 3);
        fine("when far1<8;end;", 1);
        fine("when cup=0;end;", 1);
        fault("any;^#", 1);
        fault("any;^\t", 1);
        fault("any;^" + (char) 0, 1);
        fault("any;^" + (char) 255, 1);
        fault("any;^Any;", 1);
        fault("grind ^00001;", 1);
        fine("grind 0001;", 1);
        fault("play ^12345;", 1);
        fault("play ^1234;", 2);
        fault("when cup > ^10000;", 1);
        fault("send 1 ^00005;", 1);
    }

    private static void stepsAlone() {
        C.sentence("STEP: play NAME ; or grind NUMBER ; or ..");
        String[] one = {"play a;", "grind 0;", "throw 0;", "brush;", "send 0 0;", "empty;", "any;", "stop;",
            "when up 0; end;", "when seen 0; end;", "when cup < 1; end;", "when far 0 < 1; end;", "loop 1; end;"};
        for (String step : one) {
            fine(step, 1);
            fine(step + step, 2);
            fine("loop 2;" + step + "end;", 2);
        }
        String[] cant = {"square", "by", "odds", "organ", "tune", "hearer", "at", "coins", "likes", "dog", "up", "seen",
            "cup", "far", "end", "a", "abcdefghi", "5", ";", "<", ">", "="};
        for (String word : cant) {
            fault("any;^" + word + " 0;", 2);
        }
        fault("brush ^0;", 2);
        fault("empty ^0;", 2);
        fault("any ^a;", 2);
        fault("stop ^stop;", 2);
        fault("play a ^a;", 2);
        fault("grind 1 ^1;", 2);
        fault("throw 1 ^1;", 2);
        fault("send 1 1 ^1;", 2);
        fault("loop 1 ^1;", 2);
        fault("send 1^;", 2);
        fault("when ^any; end;", 2);
        fault("when ^loop; end;", 2);
        fault("when ^a; end;", 2);
        fault("when ^0; end;", 2);
        fault("when up 0 ^0; end;", 2);
        fault("when seen ^a; end;", 2);
        fault("when cup ^0; end;", 2);
        fault("when far ^< 0; end;", 2);
        fault("when far 0 ^0; end;", 2);
        fault("when cup < 0 ^< 0; end;", 2);
    }

    private static void leftOut() {
        C.sentence("2 it can't stand there: what stands behind a TOKEN that is left out");
        String[] steps = {"play a ;", "grind 1 ;", "throw 1 ;", "brush ;", "send 1 1 ;", "empty ;", "any ;", "stop ;",
            "loop 1 ; end ;", "when up 0 ; end ;", "when seen 0 ; end ;", "when cup < 1 ; end ;",
            "when far 0 > 1 ; end ;"};
        for (String step : steps) {
            String[] tokens = (step + " any ;").split(" ");
            int many = step.split(" ").length;
            for (int left = 0; left < many; left++) {
                StringBuilder text = new StringBuilder();
                int place = -1;
                for (int i = 0; i < tokens.length; i++) {
                    if (i == left + 1) {
                        place = text.length();
                    }
                    text.append(i == left ? "" : tokens[i] + " ");
                }
                boolean isNumberOfTwo = step.startsWith("send") && left == 1;
                boolean isEnd = tokens[left].equals("end");
                if (!isNumberOfTwo && !isEnd) {
                    faultAt(text.toString(), 2, place);
                }
            }
        }
        fault("send 1 ^; any;", 2);
        fault("loop 1; ^; any;", 2);
    }

    private static void theEnd() {
        C.sentence("2: the text's end: the text's length");
        String[] steps = {"play a ;", "grind 1 ;", "throw 1 ;", "brush ;", "send 1 1 ;", "empty ;", "any ;", "stop ;",
            "when up 0 ; end ;", "when seen 0 ; end ;", "when cup < 1 ; end ;", "when far 0 > 1 ; end ;",
            "loop 1 ; any ; end ;"};
        for (String step : steps) {
            String[] tokens = step.split(" ");
            StringBuilder text = new StringBuilder("any;");
            for (int i = 0; i < tokens.length - 1; i++) {
                text.append(' ').append(tokens[i]);
                fault(text + "^", 2);
                faultAt(text + " \n", 2, text.length() + 2);
            }
            fine(text + ";", step.startsWith("loop") ? 3 : 2);
        }
    }

    private static void names() {
        C.sentence("3 a NAME that is no TUNE");
        fine("play abcdefgh;", 1);
        fault("play ^abcdefg;", 3);
        fault("play ^b;", 3);
        fault("play ^aa;", 3);
        C.sentence("2: a WORD of 9 letters and more where a NAME must stand");
        fault("play ^abcdefghi;", 2);
        fault("play ^any;", 2);
        fault("play ^tune;", 2);
    }

    private static void cells() {
        C.sentence("4 a NUMBER that can't be (no such CELL, ..)");
        String[] words = {"grind ", "throw ", "send 0 "};
        for (String word : words) {
            fine(word + "0;", 1);
            fine(word + "5;", 1);
            fault(word + "^6;", 4);
            fault(word + "^9999;", 4);
        }
    }

    private static void hearersAndDogs() {
        C.sentence("4: no such HEARER");
        fine("send 1 0;", 1);
        fault("send ^2 0;", 4);
        fault("send ^2 9;", 4);
        fine("when seen 0; end;", 1);
        fine("when seen 1; end;", 1);
        fault("when seen ^2; end;", 4);
        fine("when far 1 < 1; end;", 1);
        fault("when far ^2 < 1; end;", 4);
        C.sentence("4: no such DOG");
        fine("when up 0; end;", 1);
        fault("when up ^1; end;", 4);
        UnseenRing x = Check.of(BASE);
        x.come(3);
        C.fine(x, "one who came is a HEARER", Check.days(x, "send 2 0; when seen 2; end; when far 2 < 1; end;"), 3);
        C.refused(x, "but no fourth is", Check.days(x, "send 3 0;"), 9);
    }

    private static void cupAndFar() {
        C.sentence("cup: 0 to 9,999");
        fine("when cup < 0; end;", 1);
        fine("when cup < 9999; end;", 1);
        fault("when cup < ^10000; end;", 1);
        C.sentence("far: 0 to 8");
        fine("when far 0 < 0; end;", 1);
        fine("when far 0 < 8; end;", 1);
        fault("when far 0 < ^9; end;", 4);
        fault("when far 0 < ^9999; end;", 4);
    }

    private static void compares() {
        C.sentence("COMPARES: < or > or =");
        String[] signs = {"<", ">", "="};
        for (String sign : signs) {
            fine("when cup " + sign + " 1; end;", 1);
            fine("when far 1" + sign + "1; end;", 1);
        }
        fault("when cup ^; 1; end;", 2);
        fault("when far 1 ^; 1; end;", 2);
        fault("when cup <^= 1; end;", 2);
        fault("when cup =^= 1; end;", 2);
        fault("when cup ^! 1; end;", 1);
        fault("when up ^< 0; end;", 2);
        fault("when up 0 ^< 0; end;", 2);
    }

    private static void loops() {
        C.sentence("loop n (1 to 99)");
        fault("loop ^0; end;", 4);
        fine("loop 1; end;", 1);
        fine("loop 99; end;", 1);
        fault("loop ^100; end;", 4);
        fault("loop ^a; end;", 2);
    }

    private static void ends() {
        C.sentence("an end without a beginning: 2");
        fault("^end;", 2);
        fault("any; ^end;", 2);
        fault("loop 1; end; ^end;", 2);
        fault("when up 0; loop 1; end; end; ^end;", 2);
        C.sentence("the text's end ahead of an end: 2");
        fault("loop 1;^", 2);
        fault("when up 0; any;^", 2);
        fault("loop 1; when up 0; end; \n^", 2);
        fault("loop 1; loop 1; loop 1; end; end;^", 2);
        fine("loop 1; loop 1; loop 1; end; end; end;", 3);
    }

    private static void manySteps() {
        C.sentence("6 a 31st STEP (at its WORD; end is none)");
        fine("any;".repeat(29), 29);
        fine("any;".repeat(30), 30);
        String[] more = {"any;", "any", "play z;", "grind 99;", "throw", "brush;", "send 9 9;", "empty;", "stop;",
            "when up 9;", "loop 0;"};
        for (String step : more) {
            fault("any;".repeat(30) + "^" + step, 6);
        }
        fault("any;".repeat(30) + "^polka;", 2);
        fault("any;".repeat(30) + "^?", 1);
        fault("any;".repeat(30) + "^end;", 2);
        fine("any;".repeat(29) + "loop 9;end;", 30);
        fault("any;".repeat(29) + "loop 9;end;^any;", 6);
        fine("loop 9;" + "any;".repeat(29) + "end;", 30);
        fault("loop 9;" + "any;".repeat(29) + "^any;end;", 6);
        fault("any;".repeat(29) + "loop 9;^any;end;", 6);
        fine("loop 9;end;".repeat(27), 27);
        fine("loop 1;loop 2;loop 3;" + "any;".repeat(27) + "end;end;end;", 30);
    }

    private static void deep() {
        C.sentence("7 a when, loop within three others (at its WORD)");
        String[] blocks = {"when up 0;", "loop 2;"};
        for (int i = 0; i < 16; i++) {
            String three = blocks[i & 1] + blocks[i >> 1 & 1] + blocks[i >> 2 & 1];
            fine(three + "any;end;end;end;", 4);
            fault(three + "^" + blocks[i >> 3] + "end;end;end;end;", 7);
            fine(three + "end;" + blocks[i >> 3] + "end;end;end;", 4);
            fault(three + "end;" + blocks[i >> 3] + "^" + blocks[i >> 3], 7);
            fine(three + "end;end;end;" + three + "end;end;end;", 6);
        }
        fault("loop 2;loop 2;loop 2;^loop 0;", 7);
        fault("loop 2;loop 2;loop 2;^when", 7);
        fault("loop 2;loop 2;loop 2;any;any;^loop 2;", 7);
    }

    private static void firstFault() {
        C.sentence("of one TOKEN the least kind");
        fault("any;".repeat(27) + "loop 1;loop 1;loop 1;^loop 1;", 6);
        fault("any;".repeat(26) + "loop 1;loop 1;loop 1;^loop 1;", 7);
        fault("any;".repeat(27) + "when up 0;loop 1;loop 1;^when up 0;", 6);
        C.sentence("the first along the text");
        fault("play ^z; grind 99;", 3);
        fault("grind ^99; play z;", 4);
        fault("send ^9 9;", 4);
        fault("grind ^99 ?", 4);
        fault("grind 1 ^? 99", 1);
        fault("loop ^0; end; end;", 4);
    }

    private static void ofNobody() {
        C.sentence("no such CELL, HEARER, DOG, too: of a SQUARE of nobody");
        String[] texts = {"send 0 0;", "when up 0; end;", "when seen 0; end;", "when far 0 < 1; end;"};
        int[] places = {5, 8, 10, 9};
        for (int i = 0; i < texts.length; i++) {
            UnseenRing x = new UnseenRing();
            C.refused(x, texts[i], Check.days(x, texts[i]), 9);
            C.due("fault(0) of " + texts[i], x.fault(0), 4);
            C.due("fault(1) of " + texts[i], x.fault(1), places[i]);
        }
        UnseenRing x = new UnseenRing();
        C.refused(x, "play", Check.days(x, "play a;"), 9);
        C.due("fault(0)", x.fault(0), 3);
        C.fine(x, "the others can be", Check.days(x, "grind 15; throw 15; brush; empty; any; when cup = 0; end; stop;"), 7);
    }

    private static void readAnew() {
        C.sentence("a text is read anew, whatever stood in that ahead");
        String[] ahead = {"loop 1; loop 1; loop 1; any;", "loop 1; play z;", "when up 0; ?", "any;".repeat(31),
            "loop 1; loop 1; loop 1; loop 1;", "end;"};
        UnseenRing x = Check.of(BASE);
        for (String text : ahead) {
            C.refused(x, text, Check.days(x, text), 9);
            C.fine(x, "any behind " + text, Check.days(x, "any;"), 1);
            C.refused(x, text, Check.days(x, text), 9);
            C.refused(x, "an end behind " + text, Check.days(x, "end;"), 9);
            C.due("its place", x.fault(1), 0);
            C.refused(x, text, Check.days(x, text), 9);
            C.fine(x, "thirty behind " + text, Check.days(x, "any;".repeat(30)), 30);
            C.fine(x, "three deep behind " + text, Check.days(x, "loop 1;loop 1;loop 1;end;end;end;"), 3);
        }
    }

    private static void daysStay() {
        C.sentence("DAYS that are taken are there in place of those ahead");
        UnseenRing x = fine("any; any;", 2);
        C.fine(x, "others", x.square(0), 0);
        C.refused(x, "but with a SQUARE they are gone", x.live(0), 6);
        UnseenRing y = Check.of(BASE);
        Check.days(y, "grind 1; grind 2;");
        C.fine(y, "shorter ones", Check.days(y, "grind 5;"), 1);
        C.fine(y, "live", y.live(0), 1);
        C.fine(y, "the organ", y.told(6), 5);
        C.sentence("none at first");
        UnseenRing z = Check.of(BASE);
        C.refused(z, "live", z.live(0), 6);
    }
}
