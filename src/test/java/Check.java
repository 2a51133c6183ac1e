/** What all tests use: it counts the answers that are not due, and feeds texts. */
final class Check {
    private final String title;
    private String sentence = "";
    private int asked = 0;
    private int wrong = 0;

    Check(String title) {
        this.title = title;
    }

    /** The document's sentence that the checks behind this are for. */
    void sentence(String words) {
        sentence = "[" + words + "] ";
    }

    void due(String what, long got, long want) {
        asked++;
        if (got != want) {
            wrong++;
            if (wrong <= 40) {
                System.out.println(title + ": " + sentence + what + " answered " + got + ", due is " + want);
            }
        }
    }

    void due(String what, boolean got, boolean want) {
        due(what, got ? 1 : 0, want ? 1 : 0);
    }

    /** A call that must be refused: NONE, and the STATUS. */
    void refused(UnseenRing x, String what, long got, int status) {
        due(what, got, UnseenRing.NONE);
        due(what + " status", x.status(), status);
    }

    void refused(UnseenRing x, String what, boolean got, int status) {
        due(what, got, false);
        due(what + " status", x.status(), status);
    }

    void fine(UnseenRing x, String what, long got, long want) {
        due(what, got, want);
        due(what + " status", x.status(), 0);
    }

    void fine(UnseenRing x, String what, boolean got) {
        due(what, got, true);
        due(what + " status", x.status(), 0);
    }

    void fraction(UnseenRing x, String what, boolean got, long top, long bottom) {
        fine(x, what, got);
        due(what + " top", x.top(), top);
        due(what + " bottom", x.bottom(), bottom);
    }

    void end() {
        System.out.println(title + ": " + asked + " asked, " + wrong + " wrong");
        if (wrong != 0) {
            System.exit(1);
        }
    }

    /** Feeds a text to an empty tape; answers its length. */
    static int feed(UnseenRing x, String text) {
        int n = text.length();
        for (int i = 0; i < n; i += 20) {
            x.feed(four(text, i), four(text, i + 4), four(text, i + 8), four(text, i + 12), four(text, i + 16));
        }
        return n;
    }

    private static int four(String text, int from) {
        int four = 0;
        for (int i = from; i < from + 4; i++) {
            four = four << 8 | (i < text.length() ? text.charAt(i) & 255 : 0);
        }
        return four;
    }

    static int square(UnseenRing x, String text) {
        return x.square(feed(x, text));
    }

    static int days(UnseenRing x, String text) {
        return x.days(feed(x, text));
    }

    static UnseenRing of(String text) {
        UnseenRing x = new UnseenRing();
        square(x, text);
        if (x.status() != 0) {
            throw new IllegalStateException("fault " + x.fault(0) + " at " + x.fault(1) + " of " + text);
        }
        return x;
    }
}
