import java.util.ArrayList;
import java.util.HashSet;
import java.util.List;
import java.util.Set;
import java.util.regex.Matcher;
import java.util.regex.Pattern;

/** The document's two texts, read by its grammar one TOKEN behind the other; the first FAULT is thrown. */
final class ModelText {
    static final class Fault extends RuntimeException {
        private static final long serialVersionUID = 1;
        final int kind;
        final int place;

        Fault(int kind, int place) {
            super("fault " + kind + " at " + place);
            this.kind = kind;
            this.place = place;
        }
    }

    static final List<String> RESERVED = List.of("square", "by", "odds", "organ", "tune", "hearer", "at", "coins",
            "likes", "dog", "play", "grind", "throw", "brush", "send", "empty", "any", "when", "up", "seen", "cup",
            "far", "loop", "end", "stop");
    private static final Pattern TOKEN = Pattern.compile("[a-z]+|[0-9]+|[;<>=]");
    private static final Pattern NAME = Pattern.compile("[a-z]{1,8}");

    private final String text;
    private final Set<String> told = new HashSet<>();
    private final Model model;
    private String token = "";
    private int place = 0;
    private int next = 0;
    private int steps = 0;

    private ModelText(String text, Model model) {
        this.text = text;
        this.model = model;
        advance();
    }

    static Model square(String text) {
        Model m = new Model();
        m.wide = 4;
        m.high = 4;
        m.odds = 8;
        ModelText t = new ModelText(text, m);
        while (!t.token.isEmpty()) {
            t.part();
        }
        return m;
    }

    static ModelDays days(String text, Model of) {
        ModelText t = new ModelText(text, of);
        List<ModelDays.Step> all = t.row(0);
        return new ModelDays(all, t.steps);
    }

    /** The text's end is the empty token. */
    private void advance() {
        place = next;
        while (place < text.length() && (text.charAt(place) == 10 || text.charAt(place) == 32)) {
            place++;
        }
        if (place == text.length()) {
            token = "";
            next = place;
            return;
        }
        Matcher found = TOKEN.matcher(text).region(place, text.length());
        if (!found.lookingAt()) {
            throw new Fault(1, place);
        }
        token = found.group();
        next = found.end();
        if (Character.isDigit(token.charAt(0)) && token.length() > 4) {
            throw new Fault(1, place);
        }
    }

    private void must(boolean is, int kind) {
        if (!is) {
            throw new Fault(kind, place);
        }
    }

    private void take(String wanted) {
        must(token.equals(wanted), 2);
        advance();
    }

    private int number(int least, int most) {
        must(!token.isEmpty() && Character.isDigit(token.charAt(0)), 2);
        int number = Integer.parseInt(token);
        must(number >= least && number <= most, 4);
        advance();
        return number;
    }

    private int cell() {
        return number(0, model.wide * model.high - 1);
    }

    private int hearer() {
        return number(0, model.hearers.size() - 1);
    }

    private boolean isName() {
        return NAME.matcher(token).matches() && !RESERVED.contains(token);
    }

    private void part() {
        String word = token;
        switch (word) {
            case "square":
                must(!told.contains("square") && !told.contains("organ"), 5);
                must(model.hearers.isEmpty() && model.dogs.isEmpty(), 5);
                break;
            case "odds":
            case "organ":
                must(!told.contains(word), 5);
                break;
            case "tune":
                must(model.names.size() < 6, 6);
                break;
            case "hearer":
                must(model.hearers.size() < 6, 6);
                break;
            case "dog":
                must(model.dogs.size() < 4, 6);
                break;
            default:
                throw new Fault(2, place);
        }
        told.add(word);
        advance();
        rest(word);
        take(";");
    }

    private void rest(String word) {
        switch (word) {
            case "square":
                model.wide = number(1, 5);
                take("by");
                model.high = number(1, 5);
                break;
            case "odds":
                model.odds = number(0, 16);
                break;
            case "organ":
                model.organ = cell();
                break;
            case "tune":
                must(isName(), 2);
                must(!model.names.contains(token), 3);
                model.names.add(token);
                model.tunes++;
                advance();
                break;
            case "hearer":
                take("at");
                model.hearers.add(new int[] {cell(), coins(), likes(), 0});
                break;
            default:
                take("at");
                model.dogs.add(cell());
                break;
        }
    }

    private int coins() {
        if (!token.equals("coins")) {
            return 3;
        }
        advance();
        return number(0, 99);
    }

    private int likes() {
        if (!token.equals("likes")) {
            return 0;
        }
        advance();
        int set = 0;
        while (isName()) {
            int tune = model.names.indexOf(token);
            must(tune >= 0, 3);
            must((set >> tune & 1) == 0, 5);
            set |= 1 << tune;
            advance();
        }
        return set;
    }

    /** The STEPS up to an end, or, if they are within nothing, up to the text's. */
    private List<ModelDays.Step> row(int within) {
        List<ModelDays.Step> all = new ArrayList<>();
        while (within == 0 ? !token.isEmpty() : !token.equals("end")) {
            all.add(step(within));
        }
        return all;
    }

    private ModelDays.Step step(int within) {
        String word = token;
        must(List.of("play", "grind", "throw", "brush", "send", "empty", "any", "when", "loop", "stop").contains(word), 2);
        must(steps < 30, 6);
        boolean block = word.equals("when") || word.equals("loop");
        must(!block || within < 3, 7);
        steps++;
        advance();
        ModelDays.Step head = word.equals("when") ? test() : plain(word);
        take(";");
        if (!block) {
            return head;
        }
        List<ModelDays.Step> inside = row(within + 1);
        take("end");
        take(";");
        return new ModelDays.Step(head.word(), head.a(), head.b(), head.sign(), head.c(), inside);
    }

    private ModelDays.Step plain(String word) {
        int a = 0;
        int b = 0;
        switch (word) {
            case "play":
                must(isName(), 2);
                a = model.names.indexOf(token);
                must(a >= 0, 3);
                advance();
                break;
            case "grind":
            case "throw":
                a = cell();
                break;
            case "send":
                a = hearer();
                b = cell();
                break;
            case "loop":
                a = number(1, 99);
                break;
            default:
                break;
        }
        return new ModelDays.Step(word, a, b, ' ', 0, null);
    }

    private ModelDays.Step test() {
        String word = token;
        must(List.of("up", "seen", "cup", "far").contains(word), 2);
        advance();
        int who = 0;
        if (word.equals("up")) {
            who = number(0, model.dogs.size() - 1);
        } else if (!word.equals("cup")) {
            who = hearer();
        }
        if (word.equals("up") || word.equals("seen")) {
            return new ModelDays.Step(word, who, 0, ' ', 0, null);
        }
        must(List.of("<", ">", "=").contains(token), 2);
        char sign = token.charAt(0);
        advance();
        return new ModelDays.Step(word, who, 0, sign, number(0, word.equals("cup") ? 9999 : 8), null);
    }
}
