/** The faults of both texts: what they are and where. Promises 9 to 12. */
public final class FaultTest {
    private static final Check CHECK = new Check("FaultTest");
    private static final String SIX_TUNES = "tune a;tune b;tune c;tune d;tune e;tune f;";
    private static final String BASE =
            "square 3 by 2; tune a; tune polka; hearer at 0; hearer at 5 likes a; dog at 1;";

    private static void squareFault(String text, int kind, int place) {
        UnseenRing x = new UnseenRing();
        CHECK.refused(x, "square " + text, Check.square(x, text), 9);
        CHECK.due("fault of " + text, x.fault(0), kind);
        CHECK.due("place of " + text, x.fault(1), place);
        CHECK.due("told(3) behind " + text, x.told(3), 0);
    }

    private static void squareFine(String text, int hearers) {
        UnseenRing x = new UnseenRing();
        CHECK.fine(x, "square " + text, Check.square(x, text), hearers);
        CHECK.due("fault of " + text, x.fault(0), 0);
        CHECK.due("place of " + text, x.fault(1), -1);
    }

    private static void daysFault(String text, int kind, int place) {
        UnseenRing x = Check.of(BASE);
        CHECK.refused(x, "days " + text, Check.days(x, text), 9);
        CHECK.due("fault of " + text, x.fault(0), kind);
        CHECK.due("place of " + text, x.fault(1), place);
        CHECK.refused(x, "live behind " + text, x.live(0), 6);
    }

    private static void daysFine(String text, int steps) {
        UnseenRing x = Check.of(BASE);
        CHECK.fine(x, "days " + text, Check.days(x, text), steps);
        CHECK.due("fault of " + text, x.fault(0), 0);
        CHECK.due("place of " + text, x.fault(1), -1);
    }

    public static void main(String[] args) {
        tokens();
        squares();
        hearers();
        days();
        blocks();
        cutTexts();
        tape();
        CHECK.end();
    }

    private static void tokens() {
        squareFine("", 0);
        squareFine(" \n \n", 0);
        squareFine("odds\n5\n;", 0);
        squareFine("odds5;organ0015;", 0);
        squareFault("?", 1, 0);
        squareFault("odds 5;\t", 1, 7);
        squareFault("odds 5;\r\n", 1, 7);
        squareFault("odds 5; Tune a;", 1, 8);
        squareFault("odds " + (char) 233 + ";", 1, 5);
        squareFault("odds " + (char) 0, 1, 5);
        squareFault("odds 12345;", 1, 5);
        squareFault("odds 00005;", 1, 5);
        squareFault("12345", 1, 0);
        squareFault("1234", 2, 0);
        squareFault("; ?", 2, 0);
        squareFault("odds 5 ?", 1, 7);
        squareFault("odds -1;", 1, 5);
        squareFault("odds 5,", 1, 6);
        squareFault("odds 5 < ;", 2, 7);
        squareFine("odds 0008;", 0);
        squareFault("odds 8  \n ", 2, 10);
        squareFault("od", 2, 0);
        squareFault("oddss 5;", 2, 0);
        squareFault("by 5;", 2, 0);
        squareFault("play a;", 2, 0);
        squareFault("end;", 2, 0);
    }

    private static void squares() {
        squareFine("square 1 by 1;", 0);
        squareFine("square 5by5;organ 24;", 0);
        squareFault("square 5 by 5;organ 25;", 4, 20);
        squareFault("square 2 by 3;organ 6;", 4, 20);
        squareFine("organ 15;", 0);
        squareFault("organ 16;", 4, 6);
        squareFault("square 0 by 9;", 4, 7);
        squareFault("square 5 by 0;", 4, 12);
        squareFault("square 6 by 1;", 4, 7);
        squareFault("square 1 2;", 2, 9);
        squareFault("square 1 by 2", 2, 13);
        squareFine("odds 16;", 0);
        squareFine("odds 0;", 0);
        squareFault("odds 17;", 4, 5);
        squareFault("odds 1;odds 1;", 5, 7);
        squareFault("square 1 by 1; square 9 by 9;", 5, 15);
        squareFault("organ 0;square 9", 5, 8);
        squareFault("dog at 0;square 9", 5, 9);
        squareFine("tune a;odds 3;square 2 by 2;", 0);
        squareFine("tune squares;tune ends;tune abcdefgh;", 0);
        squareFault("tune abcdefghi;", 2, 5);
        squareFault("tune abcdefghijklmnopqrstuvwxyz;", 2, 5);
        squareFault("tune stop;", 2, 5);
        squareFault("tune 5;", 2, 5);
        squareFault("tune ;", 2, 5);
        squareFault("tune", 2, 4);
        squareFault("tune a b;", 2, 7);
        squareFault("tune ab;tune a;tune ab;", 3, 20);
        squareFine(SIX_TUNES, 0);
        squareFault(SIX_TUNES + "tune a;", 6, SIX_TUNES.length());
        squareFault(SIX_TUNES + "tune", 6, SIX_TUNES.length());
        String[] reserved = ("square by odds organ tune hearer at coins likes dog play grind throw brush send empty "
                + "any when up seen cup far loop end stop").split(" ");
        for (String word : reserved) {
            squareFault("tune " + word + ";", 2, 5);
            squareFine("tune x" + word + ";", 0);
        }
    }

    private static void hearers() {
        squareFine("hearer at 0;", 1);
        squareFine("hearer at 0 coins 0;", 1);
        squareFine("hearer at 0 coins 99 likes;", 1);
        squareFine("hearer at 0 likes;", 1);
        squareFine(SIX_TUNES + "hearer at 15 likes f e d c b a;", 1);
        squareFault(SIX_TUNES + "hearer at 15 likes f e d c b a a;", 5, 73);
        squareFault(SIX_TUNES + "hearer at 15 likes f e d c b a g;", 3, 73);
        squareFault("hearer at 0 coins 100;", 4, 18);
        squareFault("hearer at 0 coins;", 2, 17);
        squareFault("hearer at 0 coins 1 coins 2;", 2, 20);
        squareFault("hearer at 0 likes coins 1;", 2, 18);
        squareFault("hearer at ;", 2, 10);
        squareFault("hearer 0;", 2, 7);
        squareFault("hearer at 16;", 4, 10);
        squareFault("hearer at 0 likes a;tune a;", 3, 18);
        squareFault("tune a;hearer at 0 likes a odds;", 2, 27);
        squareFault("tune a;hearer at 0 likes a abcdefghi;", 2, 27);
        squareFault("tune a;hearer at 0 likes a 3;", 2, 27);
        squareFault("tune a;hearer at 0 likes a", 2, 26);
        squareFault("hearer at 0", 2, 11);
        String hearer = "hearer at 0;";
        squareFine(hearer.repeat(6), 6);
        squareFault(hearer.repeat(7), 6, 72);
        squareFine("dog at 3;".repeat(4), 0);
        squareFault("dog at 3;".repeat(5), 6, 36);
        squareFault("dog 3;", 2, 4);
        squareFault("dog at 3 coins 3;", 2, 9);
        squareFault("dog at 3", 2, 8);
        squareFault("dog at", 2, 6);
        squareFault("dog at 16;", 4, 7);
        squareFault("dog odds 5;", 2, 4);
        squareFault("dog at odds 5;", 2, 7);
        squareFault("hearer odds 5;", 2, 7);
        squareFault("hearer at odds 5;", 2, 10);
        squareFault("hearer at 0 coins odds 5;", 2, 18);
        squareFault("square 1 odds 5;", 2, 9);
        squareFault("square 1 by odds 5;", 2, 12);
        squareFault("organ odds 5;", 2, 6);
        squareFault("odds 5 organ 5;", 2, 7);
    }

    private static void days() {
        daysFine("", 0);
        daysFine("play a;grind 5;throw 0;brush;send 1 5;empty;any;stop;", 8);
        daysFine("play\npolka\n;", 1);
        daysFault("play b;", 3, 5);
        daysFault("play abcdefghi;", 2, 5);
        daysFault("play any;", 2, 5);
        daysFault("play 1;", 2, 5);
        daysFault("play", 2, 4);
        daysFault("play;", 2, 4);
        daysFault("play a", 2, 6);
        daysFault("grind 6;", 4, 6);
        daysFault("grind a;", 2, 6);
        daysFault("throw 6;", 4, 6);
        daysFault("send 2 0;", 4, 5);
        daysFault("send 1 6;", 4, 7);
        daysFault("send 1;", 2, 6);
        daysFault("brush 1;", 2, 6);
        daysFault("empty empty;", 2, 6);
        daysFault("any a;", 2, 4);
        daysFault("stop", 2, 4);
        daysFault("tune a;", 2, 0);
        daysFault("polka;", 2, 0);
        daysFault("up 0;", 2, 0);
        daysFault("any;#", 1, 4);
        daysFault("throw 00001;", 1, 6);
        daysFine("any;".repeat(30), 30);
        daysFault("any;".repeat(31), 6, 120);
        daysFault("any;".repeat(30) + "any", 6, 120);
        daysFault("any;".repeat(30) + "polka", 2, 120);
    }

    private static void blocks() {
        daysFine("when up 0;end;", 1);
        daysFine("when seen 1;any;end;", 2);
        daysFine("when cup<9999;end;when cup > 0;end;when cup=5;end;", 3);
        daysFine("when far 1<8;end;when far 0 > 0;end;when far 0=5;end;", 3);
        daysFine("loop 1;end;loop 99;any;end;", 3);
        daysFault("loop 0;end;", 4, 5);
        daysFault("loop 100;end;", 4, 5);
        daysFault("loop;end;", 2, 4);
        daysFault("when up 1;end;", 4, 8);
        daysFault("when seen 2;end;", 4, 10);
        daysFault("when cup 5;end;", 2, 9);
        daysFault("when cup < 10000;end;", 1, 11);
        daysFault("when cup ; 5;end;", 2, 9);
        daysFault("when far 2 < 3;end;", 4, 9);
        daysFault("when far 0 < 9;end;", 4, 13);
        daysFault("when far 0 3;end;", 2, 11);
        daysFault("when far < 3;end;", 2, 9);
        daysFault("when any;end;", 2, 5);
        daysFault("when;end;", 2, 4);
        daysFault("when up 0 end;", 2, 10);
        daysFault("end;", 2, 0);
        daysFault("loop 2;end;end;", 2, 11);
        daysFault("loop 2;any;", 2, 11);
        daysFault("loop 2;end", 2, 10);
        daysFault("loop 2; ", 2, 8);
        daysFine("loop 1;when up 0;loop 2;end;end;end;", 3);
        daysFault("loop 1;when up 0;loop 2;loop 3;", 7, 24);
        daysFault("loop 1;when up 0;loop 2;when", 7, 24);
        daysFine("loop 1;loop 1;loop 1;end;loop 1;end;end;end;", 4);
        daysFine("any;".repeat(29) + "loop 1;end;", 30);
        daysFault("any;".repeat(27) + "loop 1;loop 1;loop 1;loop 1;", 6, 129);
        daysFault("any;".repeat(26) + "loop 1;loop 1;loop 1;loop 1;", 7, 125);
    }

    /** Only the first n bytes count, even in the midst of a token. */
    private static void cutTexts() {
        cutFault("odds 17;", 6, 2, 6);
        cutFault("odds 99999;", 9, 4, 5);
        cutFault("tune abcdefghi;", 13, 2, 13);
        cutFault("tune a;", 3, 2, 0);
        cutFault("tune ab; ?", 7, 2, 7);
        UnseenRing x = new UnseenRing();
        Check.feed(x, "odds 5; odds 6; ?");
        CHECK.fine(x, "the first part", x.square(8), 0);
        CHECK.fine(x, "odds", x.told(5), 5);
    }

    private static void cutFault(String text, int n, int kind, int place) {
        UnseenRing x = new UnseenRing();
        Check.feed(x, text);
        CHECK.refused(x, "cut " + text, x.square(n), 9);
        CHECK.due("fault of " + text, x.fault(0), kind);
        CHECK.due("place of " + text, x.fault(1), place);
    }

    private static void tape() {
        UnseenRing x = new UnseenRing();
        CHECK.due("fault(0) ahead", x.fault(0), -1);
        CHECK.due("fault(1) ahead", x.fault(1), -1);
        for (int i = 1; i <= 45; i++) {
            CHECK.due("feed", x.feed(0x20202020, 0x20202020, 0x0a0a0a0a, 0, -1), 20 * i);
        }
        CHECK.due("feed above 900", x.feed(0, 0, 0, 0, 0), -1);
        CHECK.refused(x, "square(901)", x.square(901), 1);
        CHECK.refused(x, "square(-1)", x.square(-1), 1);
        CHECK.refused(x, "days(301)", x.days(301), 1);
        CHECK.refused(x, "days(-1)", x.days(-1), 1);
        CHECK.due("fault(0) behind status 1", x.fault(0), -1);
        CHECK.due("the tape stays", x.feed(0, 0, 0, 0, 0), -1);
        CHECK.refused(x, "square(900)", x.square(900), 9);
        CHECK.due("fault(0)", x.fault(0), 1);
        CHECK.due("fault(1)", x.fault(1), 12);
        CHECK.due("fault(2)", x.fault(2), -1);
        CHECK.due("fault(-1)", x.fault(-1), -1);
        CHECK.due("feed has no status", x.feed(0x6f646473, 0x20353b20, 0, 0, 0), 20);
        CHECK.due("status", x.status(), 9);
        CHECK.refused(x, "square(21)", x.square(21), 1);
        CHECK.due("fault(0) stays", x.fault(0), 1);
        CHECK.fine(x, "square(8)", x.square(8), 0);
        CHECK.due("fault(0)", x.fault(0), 0);
        CHECK.due("fault(1)", x.fault(1), -1);
        CHECK.due("told(5)", x.told(5), 5);
        CHECK.refused(x, "square(1) of an empty tape", x.square(1), 1);
        String blanks = " ".repeat(300);
        CHECK.fine(x, "days(300)", x.days(Check.feed(x, blanks)), 0);
        CHECK.due("the tape is empty", x.feed(0, 0, 0, 0, 0), 20);
        CHECK.refused(x, "days with a fault", x.days(20), 9);
        CHECK.due("the tape is empty", x.feed(0, 0, 0, 0, 0), 20);
    }
}
