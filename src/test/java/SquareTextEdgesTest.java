/** The text of a SQUARE and the tape, sentence by sentence: 'Terms', promises 9, 10 and 12. */
public final class SquareTextEdgesTest {
    private static final Check C = new Check("SquareTextEdgesTest");
    private static final int LOW = Integer.MIN_VALUE;
    private static final int HIGH = Integer.MAX_VALUE;
    private static final String SIX_TUNES = "tune a; tune b; tune c; tune d; tune e; tune f;";
    private static final String[] RESERVED = {"square", "by", "odds", "organ", "tune", "hearer", "at", "coins", "likes",
        "dog", "play", "grind", "throw", "brush", "send", "empty", "any", "when", "up", "seen", "cup", "far", "loop",
        "end", "stop"};

    public static void main(String[] args) {
        bytes();
        tokensAsLongAsTheyGo();
        numbers();
        names();
        sides();
        odds();
        organ();
        howMany();
        coins();
        likes();
        orderOfAPart();
        leftOut();
        theEnd();
        cantStand();
        toldAlready();
        firstFault();
        taken();
        readAnew();
        tape();
        longTexts();
        faultCall();
        C.end();
    }

    /** A text that is taken. */
    private static UnseenRing fine(String text, int hearers) {
        UnseenRing x = new UnseenRing();
        C.fine(x, text, Check.square(x, text), hearers);
        C.due("fault(0) of " + text, x.fault(0), 0);
        C.due("fault(1) of " + text, x.fault(1), -1);
        return x;
    }

    /** A text with a FAULT where ^ stands; the old SQUARE stays. */
    private static void fault(String marked, int kind) {
        int place = marked.indexOf('^');
        faultAt(marked.substring(0, place) + marked.substring(place + 1), kind, place);
    }

    private static void faultAt(String text, int kind, int place) {
        UnseenRing x = Check.of("square 2 by 3; odds 5; organ 1; tune old; hearer at 4 coins 9 likes old; dog at 5;");
        Check.days(x, "play old;");
        C.refused(x, text, Check.square(x, text), 9);
        C.due("fault(0) of " + text, x.fault(0), kind);
        C.due("fault(1) of " + text, x.fault(1), place);
        C.due("the tape is empty behind " + text, x.feed(0, 0, 0, 0, 0), 20);
        int[] old = {2, 3, 1, 1, 1, 5, 1, 0, 0, 0, 1};
        for (int i = 0; i < old.length; i++) {
            C.due("told(" + i + ") behind " + text, x.told(i), old[i]);
        }
        C.due("the hearer's cell behind " + text, x.hearer(0, 0), 4);
        C.due("his likes behind " + text, x.hearer(0, 1), 1);
        C.due("his coins behind " + text, x.hearer(0, 2), 9);
        C.due("the dog's cell behind " + text, x.dog(0, 0), 5);
        C.due("the days behind " + text, x.live(0), 1);
    }

    private static void told(String text, int what, int want) {
        UnseenRing x = new UnseenRing();
        Check.square(x, text);
        C.fine(x, "told(" + what + ") of " + text, x.told(what), want);
    }

    private static boolean beginsToken(int sign) {
        return sign >= 'a' && sign <= 'z' || sign >= '0' && sign <= '9' || ";<>=".indexOf(sign) >= 0;
    }

    private static void bytes() {
        C.sentence("between them blanks (10, 32); 1 no TOKEN begins so");
        for (int sign = 0; sign < 256; sign++) {
            String text = "odds 5;" + (char) sign;
            if (sign == 10 || sign == 32) {
                fine(text, 0);
                fine((char) sign + "odds" + (char) sign + "5" + (char) sign + ";", 0);
            } else {
                faultAt(text, beginsToken(sign) ? 2 : 1, 7);
                faultAt((char) sign + "odds 5;", beginsToken(sign) ? 2 : 1, 0);
            }
        }
        fault("odds^?5;", 1);
        fault("odds ^-5;", 1);
        fault("odds 5^.;", 1);
        fault("^ODDS 5;", 1);
        fault("^odDs 5;", 2);
        fault("odds^Z 5;", 1);
    }

    private static void tokensAsLongAsTheyGo() {
        C.sentence("TOKENS, as long as they go");
        told("odds5;", 5, 5);
        told("square2by3;organ5;", 6, 5);
        told("square\n2\nby\n3\n;\n", 1, 3);
        fine("tune a;hearer at0coins5likes a;", 1);
        fault("odds 1 ^6;", 2);
        told("odds 16;", 5, 16);
        fault("^od ds 5;", 2);
        fault("^oddsodds 5;", 2);
        fault("tune a ^b;", 2);
        fault("tune a^5;", 2);
        fault("odds 5;^;", 2);
    }

    private static void numbers() {
        C.sentence("NUMBERS (1 to 4 digits); a NUMBER of 5 digits and more: at its first");
        told("odds 7;", 5, 7);
        told("odds 0007;", 5, 7);
        told("organ 0015;", 6, 15);
        fault("odds ^00007;", 1);
        fault("odds ^9999;", 4);
        fault("odds ^10000;", 1);
        fault("odds ^4294967303;", 1);
        fault("odds ^00000000000000000007;", 1);
        fault("^12345", 1);
        fault("^1234", 2);
        fault("tune ^12345;", 1);
        fault("tune ^1234;", 2);
        fault("odds ^512345;", 1);
        fault("hearer at ^00000;", 1);
        fault("hearer at 0 coins ^00099;", 1);
        fault("dog at ^00000;", 1);
        fault("organ ^00000;", 1);
        fault("square ^00001 by 1;", 1);
        fault("square 1 by ^00001;", 1);
    }

    private static void names() {
        C.sentence("NAME: a WORD of 1 to 8 letters");
        fine("tune a;", 0);
        fine("tune z;", 0);
        fine("tune abcdefgh;", 0);
        fine("tune zzzzzzzz; tune zzzzzzzy; tune zzzzzzz; tune azzzzzzz;", 0);
        fault("tune ^abcdefghi;", 2);
        fault("tune ^zzzzzzzzzzzzzzzzzzzzzzzzzzzzzzzz;", 2);
        C.sentence("a WORD of 9 letters and more where a NAME must stand");
        fine("tune abcdefgh; hearer at 0 likes abcdefgh;", 1);
        fault("tune abcdefgh; hearer at 0 likes ^abcdefghi;", 2);
        fault("tune abcdefgh; hearer at 0 likes ^abcdefg;", 3);
        C.sentence("that is none of square, by, ..");
        for (String word : RESERVED) {
            fault("tune ^" + word + ";", 2);
            fault("tune a; hearer at 0 likes a ^" + word + ";", 2);
            String longer = word + "s";
            fine("tune " + longer + "; hearer at 0 likes " + longer + ";", 1);
            String shorter = word.substring(1);
            if (!shorter.equals("up") && !shorter.equals("end")) {
                fine("tune " + shorter + ";", 0);
            }
        }
        C.sentence("No two TUNES have one NAME; 3 a new NAME that is taken");
        fault("tune ab; tune ^ab;", 3);
        fine("tune ab; tune a; tune b; tune ba; tune aba; tune aab;", 0);
        fault("tune a; tune b; tune c; tune d; tune e; tune ^a;", 3);
        fault("tune a; tune b; tune c; tune d; tune e; tune ^e;", 3);
    }

    private static void sides() {
        C.sentence("So WIDE (1 to 5; 4 without), so HIGH (1 to 5; 4 without)");
        for (int wide = 1; wide <= 5; wide++) {
            for (int high = 1; high <= 5; high++) {
                String text = "square " + wide + " by " + high + ";";
                told(text, 0, wide);
                told(text, 1, high);
                int cells = wide * high;
                fine(text + "hearer at " + (cells - 1) + ";", 1);
                fault(text + "hearer at ^" + cells + ";", 4);
                UnseenRing x = fine(text, 0);
                C.fine(x, "the last cell", x.cell(cells - 1, 1), wide + high - 2);
                C.refused(x, "one behind it", x.cell(cells, 1), 1);
            }
        }
        told("", 0, 4);
        told("", 1, 4);
        told("odds 1;", 0, 4);
        fault("square ^0 by 1;", 4);
        fault("square ^6 by 1;", 4);
        fault("square 1 by ^0;", 4);
        fault("square 1 by ^6;", 4);
        fault("square ^9999 by 9999;", 4);
    }

    private static void odds() {
        C.sentence("ODDS (0 to 16; 8 without)");
        told("odds 0;", 5, 0);
        told("odds 16;", 5, 16);
        fault("odds ^17;", 4);
        told("square 1 by 1;", 5, 8);
    }

    private static void organ() {
        C.sentence("The ORGAN is in a CELL (0 without)");
        told("organ 0;", 6, 0);
        told("organ 15;", 6, 15);
        fault("organ ^16;", 4);
        told("square 5 by 5; organ 24;", 6, 24);
        fault("square 5 by 5; organ ^25;", 4);
        told("square 1 by 1; organ 0;", 6, 0);
        fault("square 1 by 1; organ ^1;", 4);
        told("square 5 by 5;", 6, 0);
        C.sentence("each AT a CELL");
        fine("dog at 15;", 0);
        fault("dog at ^16;", 4);
        fault("square 2 by 2; dog at ^4;", 4);
    }

    private static void howMany() {
        C.sentence("TUNES, at most 6");
        told("", 2, 0);
        told(SIX_TUNES, 2, 6);
        fault(SIX_TUNES + "^tune g;", 6);
        fault(SIX_TUNES + "^tune a;", 6);
        fault(SIX_TUNES + "^tune", 6);
        C.sentence("HEARERS, at most 6");
        String hearer = "hearer at 0;";
        for (int many = 0; many <= 6; many++) {
            fine(hearer.repeat(many), many);
        }
        fault(hearer.repeat(6) + "^hearer at 0;", 6);
        fault(hearer.repeat(6) + "^hearer at 99;", 6);
        C.sentence("DOGS, at most 4");
        for (int many = 0; many <= 4; many++) {
            told("dog at 3;".repeat(many), 4, many);
        }
        fault("dog at 3;".repeat(4) + "^dog at 3;", 6);
        fault("dog at 3;".repeat(4) + "^dog", 6);
        C.sentence("All are numbered as they stand");
        UnseenRing x = Check.of(SIX_TUNES + "hearer at 5 likes a; dog at 9; hearer at 4 likes f; dog at 2; hearer at 5;"
                + "hearer at 5; dog at 9; hearer at 1 likes b; hearer at 0; dog at 0;");
        int[] cells = {5, 4, 5, 5, 1, 0};
        int[] likes = {1, 32, 0, 0, 2, 0};
        for (int i = 0; i < 6; i++) {
            C.fine(x, "cell of hearer " + i, x.hearer(i, 0), cells[i]);
            C.fine(x, "likes of hearer " + i, x.hearer(i, 1), likes[i]);
        }
        int[] dogs = {9, 2, 9, 0};
        for (int i = 0; i < 4; i++) {
            C.fine(x, "cell of dog " + i, x.dog(i, 0), dogs[i]);
        }
        C.sentence("several may be in one");
        C.fine(x, "hearers in 5", x.cell(5, 0), 1 + 4 + 8);
        C.fine(x, "dogs by one in 9", x.cell(9, 2), 1 + 4);
    }

    private static void coins() {
        C.sentence("COINS (0 to 99; 3 without)");
        int[] can = {0, 1, 98, 99};
        for (int coins : can) {
            UnseenRing x = fine("hearer at 0 coins " + coins + ";", 1);
            C.fine(x, "coins", x.hearer(0, 2), coins);
        }
        fault("hearer at 0 coins ^100;", 4);
        fault("hearer at 0 coins ^9999;", 4);
        UnseenRing x = fine("tune a; hearer at 0; hearer at 0 coins 7; hearer at 0 likes a;", 3);
        C.fine(x, "coins", x.hearer(0, 2), 3);
        C.fine(x, "coins", x.hearer(1, 2), 7);
        C.fine(x, "coins", x.hearer(2, 2), 3);
    }

    private static void likes() {
        C.sentence("the TUNES they LIKE (each once)");
        UnseenRing x = fine(SIX_TUNES + "hearer at 0; hearer at 0 likes; hearer at 0 likes f d b;"
                + "hearer at 0 likes a b c d e f; hearer at 0 likes f e d c b a;", 5);
        int[] sets = {0, 0, 32 + 8 + 2, 63, 63};
        for (int i = 0; i < sets.length; i++) {
            C.fine(x, "likes of " + i, x.hearer(i, 1), sets[i]);
        }
        C.sentence("5 a TUNE liked twice (at the second)");
        fault("tune a; hearer at 0 likes a ^a;", 5);
        fault(SIX_TUNES + "hearer at 0 likes a b c d e f ^a;", 5);
        fault(SIX_TUNES + "hearer at 0 likes a b c d e f ^f;", 5);
        fault(SIX_TUNES + "hearer at 0 likes f a ^f;", 5);
        fine("tune a; hearer at 0 likes a; hearer at 0 likes a;", 2);
        C.sentence("TUNES that are liked must be told ahead; 3 a NAME that is no TUNE told ahead");
        fault("hearer at 0 likes ^a; tune a;", 3);
        fault("tune a; hearer at 0 likes ^b; tune b;", 3);
        fault("tune a; hearer at 0 likes a ^b a;", 3);
        fault(SIX_TUNES + "hearer at 0 likes a b c d e f ^g;", 3);
        fine("tune a; hearer at 0 likes a; tune b; hearer at 0 likes b a;", 2);
    }

    private static void orderOfAPart() {
        C.sentence("hearer at NUMBER [coins NUMBER] [likes {NAME}] ;");
        fault("tune a; hearer at 0 likes a ^coins 5;", 2);
        fault("tune a; hearer at 0 likes ^coins 5;", 2);
        fault("hearer at 0 coins 5 ^coins 5;", 2);
        fault("tune a; hearer at 0 likes ^likes a;", 2);
        fault("tune a; hearer at 0 likes a ^likes a;", 2);
        fault("hearer ^coins 5 at 0;", 2);
        fault("hearer at 0 ^5;", 2);
        fault("tune a; hearer at 0 ^a;", 2);
        fault("hearer at 0 coins ^likes;", 2);
        C.sentence("dog at NUMBER ;");
        fault("dog at 0 ^coins 5;", 2);
        fault("dog at 0 ^likes;", 2);
        C.sentence("square NUMBER by NUMBER ;");
        fault("square ^by 4;", 2);
        fault("square 4 ^4;", 2);
        fault("square 4 by ^by 4;", 2);
        fault("square 4 by 4 ^by 4;", 2);
    }

    private static void leftOut() {
        C.sentence("2 it can't stand there: what stands behind a TOKEN that is left out");
        String[] parts = {"square 4 by 4 ;", "odds 8 ;", "organ 3 ;", "tune a ;", "hearer at 3 ;", "dog at 3 ;",
            "hearer at 3 coins 4 ;", "hearer at 3 coins 4 likes b ;"};
        for (String part : parts) {
            String[] tokens = part.split(" ");
            for (int left = 0; left < tokens.length; left++) {
                StringBuilder text = new StringBuilder("tune b ; ");
                int place = -1;
                for (int i = 0; i < tokens.length; i++) {
                    if (i == left + 1) {
                        place = text.length();
                    }
                    text.append(i == left ? "" : tokens[i] + " ");
                }
                if (left + 1 == tokens.length) {
                    place = text.length();
                    text.append("tune c ;");
                }
                if (!tokens[left].equals("b")) {
                    faultAt(text.toString(), 2, place);
                }
            }
        }
    }

    private static void readAnew() {
        C.sentence("a text is read anew, whatever stood in that ahead");
        String full = "square 5 by 5; odds 1; organ 24; " + SIX_TUNES + "hearer at 24 coins 99 likes a;".repeat(6)
                + "dog at 24;".repeat(4);
        UnseenRing x = new UnseenRing();
        for (int i = 0; i < 2; i++) {
            C.refused(x, "all, and a fault", Check.square(x, full + "?"), 9);
            C.fine(x, "all", Check.square(x, full), 6);
            C.fine(x, "all again", Check.square(x, full), 6);
            C.refused(x, "a cell of the old one", Check.square(x, "hearer at 24;"), 9);
            C.due("no such cell", x.fault(0), 4);
            C.refused(x, "a tune of the old one", Check.square(x, "hearer at 0 likes a;"), 9);
            C.due("no such tune", x.fault(0), 3);
            C.fine(x, "the old one stays", x.told(5), 1);
        }
    }

    private static void theEnd() {
        C.sentence("2 it can't stand there (the end: the text's length)");
        String[] parts = {"square 4 by 4 ;", "odds 8 ;", "organ 3 ;", "tune a ;", "hearer at 3 coins 4 likes b ;",
            "dog at 3 ;", "hearer at 3 likes ;"};
        for (String part : parts) {
            String[] tokens = part.split(" ");
            StringBuilder text = new StringBuilder("tune b;");
            for (int i = 0; i < tokens.length - 1; i++) {
                text.append(' ').append(tokens[i]);
                fault(text + "^", 2);
                faultAt(text + " ", 2, text.length() + 1);
                faultAt(text + "\n \n", 2, text.length() + 3);
            }
            text.append(" ;");
            fine(text.toString(), part.startsWith("hearer") ? 1 : 0);
        }
        fine("", 0);
        fine(" ", 0);
        fine("\n", 0);
    }

    private static void cantStand() {
        C.sentence("PART: square .. or odds .. or organ .. or tune .. or hearer .. or dog ..");
        for (String word : RESERVED) {
            boolean begins = "square odds organ tune hearer dog".contains(word) && word.length() > 2;
            String text = "odds 8;" + word;
            if (!begins) {
                faultAt(text, 2, 7);
            } else if (!word.equals("odds")) {
                faultAt(text, 2, text.length());
            }
        }
        fault("tune a; ^a;", 2);
        fault("^7;", 2);
        fault("^<", 2);
        fault("^>", 2);
        fault("^=", 2);
        fault("^;", 2);
        fault("odds 8 ^<", 2);
        fault("odds ^= 8;", 2);
        fault("^abcdefghi 8;", 2);
        fault("odds ^abcdefghi;", 2);
        fault("hearer ^attttttttt 5;", 2);
    }

    private static void toldAlready() {
        C.sentence("5 square, odds, organ told already");
        fault("square 4 by 4; ^square 4 by 4;", 5);
        fault("odds 8; ^odds 8;", 5);
        fault("organ 0; ^organ 0;", 5);
        fault("odds 8; organ 1; tune a; dog at 3; ^odds 99;", 5);
        C.sentence("square behind organ, a hearer, a dog (at that WORD)");
        fault("organ 0; ^square 4 by 4;", 5);
        fault("hearer at 0; ^square 4 by 4;", 5);
        fault("dog at 0; ^square 4 by 4;", 5);
        fault("dog at 0; ^square", 5);
        fault("organ 0; ^square 9 by 9;", 5);
        told("odds 3; tune a; square 2 by 5;", 1, 5);
        told("hearer at 0; organ 3;", 6, 3);
        told("dog at 0; odds 3;", 5, 3);
        told("hearer at 0; tune a;", 2, 1);
    }

    private static void firstFault() {
        C.sentence("FAULTS, the first along the text");
        fault("odds ^17; ?", 4);
        fault("odds 5 ^5 17 ?", 2);
        fault("odds 8; ^? odds 17;", 1);
        fault("tune a; tune ^a; tune stop;", 3);
        fault("odds 1; ^odds 17;", 5);
        fault("tune ^stop; tune a; tune a;", 2);
        C.sentence("of one TOKEN the least kind");
        fault("tune ^12345;", 1);
        fault("hearer at ^99999;", 1);
        fault("hearer at 0; hearer at 0 likes ^abcdefghi;", 2);
    }

    private static void taken() {
        C.sentence("A SQUARE that is taken is there in place of that ahead; the CUP is empty, nobody is SEEN, nothing was "
                + "PLAYED; there are no DAYS");
        UnseenRing x = Check.of("square 2 by 2; odds 3; organ 1; tune a; hearer at 1 likes a; hearer at 2; dog at 3;");
        Check.days(x, "play a; throw 2;");
        x.live(0);
        C.due("the cup", x.told(7), 1);
        C.due("played", x.told(8), 1);
        C.due("seen", x.told(9), 2);
        C.fine(x, "square", Check.square(x, "tune b; hearer at 15;"), 1);
        int[] told = {4, 4, 1, 1, 0, 8, 0, 0, 0, 0, 0};
        for (int i = 0; i < told.length; i++) {
            C.fine(x, "told(" + i + ")", x.told(i), told[i]);
        }
        C.fine(x, "coins", x.hearer(0, 2), 3);
        C.fine(x, "likes", x.hearer(0, 1), 0);
        C.refused(x, "no second hearer", x.hearer(1, 0), 1);
        C.refused(x, "no dog", x.dog(0, 0), 1);
        C.refused(x, "live", x.live(0), 6);
        C.refused(x, "mean", x.mean(0, 1), 6);
        C.refused(x, "the old tune is gone", Check.days(x, "play a;"), 9);
        C.fine(x, "the new one is there", Check.days(x, "play b;"), 1);
        C.fine(x, "an empty text", Check.square(x, ""), 0);
        int[] nobody = {4, 4, 0, 0, 0, 8, 0, 0, 0, 0, 0};
        for (int i = 0; i < nobody.length; i++) {
            C.fine(x, "told(" + i + ")", x.told(i), nobody[i]);
        }
    }

    private static void tape() {
        C.sentence("feed: the highest of each int first: how many it has");
        UnseenRing x = new UnseenRing();
        C.due("feed", x.feed(0x6f646473, 0x2031323b, 0x6f726761, 0x6e203133, 0x3b202020), 20);
        C.due("no status", x.status(), 0);
        C.fine(x, "square", x.square(20), 0);
        C.fine(x, "odds", x.told(5), 12);
        C.fine(x, "organ", x.told(6), 13);
        C.due("the tape is empty then", x.feed(-1, -1, -1, -1, -1), 20);
        C.due("behind those on it", x.feed(-1, -1, -1, -1, -1), 40);
        C.refused(x, "all bytes 255", x.square(1), 9);
        C.due("fault", x.fault(0), 1);
        C.due("empty again", x.feed(LOW, HIGH, 0, 1, -1), 20);
        C.sentence("NONE if there would be more than 900");
        for (int many = 40; many <= 900; many += 20) {
            C.due("feed", x.feed(0x20202020, 0x20202020, 0x20202020, 0x20202020, 0x20202020), many);
        }
        C.due("feed", x.feed(0, 0, 0, 0, 0), -1);
        C.due("feed", x.feed(0, 0, 0, 0, 0), -1);
        C.sentence("1: n below 0, or more than the tape has, too");
        C.refused(x, "square(901)", x.square(901), 1);
        C.refused(x, "square(HIGH)", x.square(HIGH), 1);
        C.refused(x, "square(-1)", x.square(-1), 1);
        C.refused(x, "square(LOW)", x.square(LOW), 1);
        C.due("fault stays", x.fault(0), 1);
        C.due("the tape is as full as it was", x.feed(0, 0, 0, 0, 0), -1);
        C.fine(x, "square(0)", x.square(0), 0);
        C.due("fault(0)", x.fault(0), 0);
        C.refused(x, "an empty tape has no byte", x.square(1), 1);
        C.fine(x, "but none it has", x.square(0), 0);
        x.feed(0x20202020, 0x20202020, 0x20202020, 0x20202020, 0x20202020);
        C.refused(x, "one more than it has", x.square(21), 1);
        C.fine(x, "all that it has", x.square(20), 0);
        C.sentence("The first n bytes of the tape (which is empty then)");
        Check.feed(x, "odds 3; odds 4; ?");
        C.fine(x, "the first 8", x.square(8), 0);
        C.fine(x, "odds", x.told(5), 3);
        C.due("empty", x.feed(0, 0, 0, 0, 0), 20);
    }

    private static void longTexts() {
        C.sentence("A SQUARE is a TEXT of at most 900 bytes");
        String blanks = " ".repeat(893);
        told(blanks + "odds 7;", 5, 7);
        told("odds 7;" + blanks, 5, 7);
        faultAt(blanks + "odds 7?", 1, 899);
        faultAt(blanks + " odds 7", 2, 900);
        faultAt(blanks + "odd 17;", 2, 893);
        faultAt("odds" + " ".repeat(896), 2, 900);
        faultAt("tune " + "a".repeat(895), 2, 5);
        faultAt("odds " + "0".repeat(895), 1, 5);
        faultAt(";".repeat(900), 2, 0);
        String full = SIX_TUNES + "hearer at 15 coins 99 likes a b c d e f;".repeat(6) + "dog at 15;".repeat(4);
        fine(full + "\n".repeat(900 - full.length()), 6);
    }

    private static void faultCall() {
        C.sentence("fault: NONE for others, and ahead of any");
        UnseenRing x = new UnseenRing();
        int[] any = {0, 1, 2, -1, LOW, HIGH};
        for (int what : any) {
            C.due("ahead of any, " + what, x.fault(what), -1);
        }
        Check.feed(x, "odds 17;");
        C.refused(x, "status 1 is none of 0, 9", x.square(21), 1);
        C.due("still ahead of any", x.fault(0), -1);
        C.refused(x, "square", x.square(8), 9);
        int[] want = {4, 5, -1, -1, -1, -1};
        for (int i = 0; i < any.length; i++) {
            C.due("fault " + any[i], x.fault(any[i]), want[i]);
        }
        C.sentence("Of the latest square() or days() with STATUS 0 or 9");
        C.refused(x, "days", Check.days(x, "any"), 9);
        C.due("fault(0)", x.fault(0), 2);
        C.due("fault(1)", x.fault(1), 3);
        C.refused(x, "days(-1)", x.days(-1), 1);
        C.refused(x, "square(-1)", x.square(-1), 1);
        C.due("fault(0)", x.fault(0), 2);
        C.due("fault(1)", x.fault(1), 3);
        C.fine(x, "days", Check.days(x, "any;"), 1);
        C.due("0 without one", x.fault(0), 0);
        C.due("NONE without", x.fault(1), -1);
    }
}
