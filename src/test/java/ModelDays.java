import java.util.ArrayList;
import java.util.List;
import java.util.Random;

/** DAYS as a tree that is made by chance and told as a text, or was read from one, and is lived on a Model. */
final class ModelDays {
    private final List<Step> steps;
    private final Random random;
    private int many = 0;

    /** A when bears the word of its test. */
    record Step(String word, int a, int b, char sign, int c, List<Step> inside) {
    }

    private static final class Ends extends RuntimeException {
        private static final long serialVersionUID = 1;
    }

    int seed;
    int done;
    int missed;
    int plays;
    int coins;
    int hits;
    int left;

    ModelDays(Random random, Model m) {
        this.random = random;
        this.steps = new ArrayList<>();
        fill(steps, m, 0, 1 + random.nextInt(8));
    }

    /** Those that were read from a text. */
    ModelDays(List<Step> steps, int many) {
        this.random = null;
        this.steps = steps;
        this.many = many;
    }

    int steps() {
        return many;
    }

    private void fill(List<Step> into, Model m, int deep, int wanted) {
        for (int i = 0; i < wanted && many < 18; i++) {
            Step s = step(m, deep);
            if (s != null) {
                into.add(s);
            }
        }
    }

    private Step step(Model m, int deep) {
        int kind = random.nextInt(12);
        int cell = random.nextInt(m.cells());
        int hearer = m.hearers.isEmpty() ? 0 : random.nextInt(m.hearers.size());
        boolean block = kind >= 9 && kind <= 10;
        if (block && deep == 3 || kind == 0 && m.tunes == 0 || kind == 4 && m.hearers.isEmpty()
                || kind == 11 && random.nextInt(4) > 0) {
            return null;
        }
        many++;
        List<Step> inside = new ArrayList<>();
        switch (kind) {
            case 0:
                return new Step("play", random.nextInt(m.tunes), 0, ' ', 0, null);
            case 1:
                return new Step("grind", cell, 0, ' ', 0, null);
            case 2:
                return new Step("throw", cell, 0, ' ', 0, null);
            case 3:
                return new Step("brush", 0, 0, ' ', 0, null);
            case 4:
                return new Step("send", hearer, cell, ' ', 0, null);
            case 5:
                return new Step("empty", 0, 0, ' ', 0, null);
            case 6:
            case 7:
            case 8:
                return new Step("any", 0, 0, ' ', 0, null);
            case 9:
                fill(inside, m, deep + 1, random.nextInt(4));
                int times = random.nextInt(3) == 0 ? 99 : 1 + random.nextInt(9);
                return new Step("loop", times, 0, ' ', 0, inside);
            case 10:
                fill(inside, m, deep + 1, random.nextInt(3));
                return test(m, hearer, inside);
            default:
                return new Step("stop", 0, 0, ' ', 0, null);
        }
    }

    private Step test(Model m, int hearer, List<Step> inside) {
        char sign = "<>=".charAt(random.nextInt(3));
        int kind = random.nextInt(4);
        if (kind == 0 && !m.dogs.isEmpty()) {
            return new Step("up", random.nextInt(m.dogs.size()), 0, ' ', 0, inside);
        }
        if (kind == 1 && !m.hearers.isEmpty()) {
            return new Step("seen", hearer, 0, ' ', 0, inside);
        }
        if (kind == 2 && !m.hearers.isEmpty()) {
            return new Step("far", hearer, 0, sign, random.nextInt(5), inside);
        }
        return new Step("cup", 0, 0, sign, random.nextInt(6), inside);
    }

    String text() {
        StringBuilder text = new StringBuilder();
        tell(steps, text);
        return text.toString();
    }

    private static void tell(List<Step> steps, StringBuilder text) {
        for (Step s : steps) {
            switch (s.word) {
                case "play" -> text.append("play ").append(Model.NAMES[s.a]);
                case "grind", "throw", "loop" -> text.append(s.word).append(s.a);
                case "send" -> text.append("send ").append(s.a).append(' ').append(s.b);
                case "up", "seen" -> text.append("when ").append(s.word).append(s.a);
                case "cup" -> text.append("when cup").append(s.sign).append(s.c);
                case "far" -> text.append("when far").append(s.a).append(s.sign).append(s.c);
                default -> text.append(s.word);
            }
            text.append(";");
            if (s.inside != null) {
                tell(s.inside, text);
                text.append("end;");
            }
        }
    }

    void live(Model m, int from) {
        seed = from;
        done = 0;
        missed = 0;
        plays = 0;
        coins = 0;
        hits = 0;
        left = 0;
        try {
            doAll(steps, m);
        } catch (Ends e) {
            return;
        }
    }

    private void doAll(List<Step> all, Model m) {
        for (Step s : all) {
            if (done == 300) {
                left = 1;
                throw new Ends();
            }
            done++;
            doOne(s, m);
        }
    }

    private void doOne(Step s, Model m) {
        switch (s.word) {
            case "loop" -> {
                for (int i = 0; i < s.a; i++) {
                    doAll(s.inside, m);
                }
            }
            case "up" -> when((m.up() >> s.a & 1) == 1, s, m);
            case "seen" -> when(m.hearers.get(s.a)[3] == 1, s, m);
            case "cup" -> when(compares(m.cup, s), s, m);
            case "far" -> when(compares(m.far(m.hearers.get(s.a)[0], m.organ), s), s, m);
            case "stop" -> throw new Ends();
            case "play" -> play(m, s.a);
            case "throw" -> flour(m, s.a);
            case "any" -> any(m);
            default -> deed(s, m);
        }
    }

    private void deed(Step s, Model m) {
        boolean can;
        switch (s.word) {
            case "grind" -> {
                can = m.organ != s.a;
                m.organ = s.a;
            }
            case "send" -> {
                can = m.hearers.get(s.a)[0] != s.b;
                m.hearers.get(s.a)[0] = s.b;
            }
            case "brush" -> {
                can = m.seen() != 0;
                m.hearers.forEach(h -> h[3] = 0);
            }
            default -> {
                can = m.cup > 0;
                m.cup = 0;
            }
        }
        missed += can ? 0 : 1;
    }

    private void when(boolean holds, Step s, Model m) {
        if (holds) {
            doAll(s.inside, m);
        }
    }

    private static boolean compares(int number, Step s) {
        return s.sign == '<' ? number < s.c : s.sign == '>' ? number > s.c : number == s.c;
    }

    private void play(Model m, int tune) {
        if (m.likers(tune) == 0) {
            missed++;
            return;
        }
        plays++;
        m.played++;
        coins += m.play(tune);
    }

    private void flour(Model m, int cell) {
        if (m.throwAt(cell) == 0) {
            missed++;
        } else {
            hits++;
        }
    }

    private void any(Model m) {
        if (m.tunes == 0) {
            missed++;
            return;
        }
        int tune = draw(m.tunes);
        int cell = draw(m.cells());
        if (draw(16) < m.odds) {
            play(m, tune);
        } else {
            flour(m, cell);
        }
    }

    private int draw(int n) {
        seed = (int) ((seed * 3257L + 11483L) % 65536L);
        return (int) Math.floor(seed / 8.0) % n;
    }
}
