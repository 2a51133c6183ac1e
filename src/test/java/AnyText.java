import java.util.ArrayList;
import java.util.Collections;
import java.util.List;
import java.util.Random;

/** Texts of SQUARES and DAYS by chance, as TOKENS that are set behind one another, with or without a FAULT. */
final class AnyText {
    private static final String[] NAMES = {"a", "b", "polka", "waltz", "abcdefgh", "zzzzzzzz", "ab", "squar", "squares",
        "tunes", "ends", "az", "q"};
    private static final String[] NUMBERS = {"0", "00", "0007", "1", "3", "4", "5", "6", "8", "9", "15", "16", "17", "24",
        "25", "98", "99", "100", "300", "9999", "00000", "12345"};
    private static final String[] SIGNS = {";", "<", ">", "="};
    private static final String[] ODD = {"@", "A", "-", "\t", "\r", "\u0000", "\u00ff", "`", "{", "/", ":", "?", "nobody",
        "abcdefghi"};

    private final Random random;
    private final List<String> tokens = new ArrayList<>();
    private int steps = 0;

    AnyText(Random random) {
        this.random = random;
    }

    private void put(Object... more) {
        for (Object one : more) {
            tokens.add(one.toString());
        }
    }

    private boolean by(int chance, int of) {
        return random.nextInt(of) < chance;
    }

    private int below(int n) {
        return random.nextInt(n);
    }

    /** Up to so many, rather more than fewer. */
    private int many(int most) {
        return Math.max(below(most + 1), below(most + 1));
    }

    /** A SQUARE that can be taken; a small one has little of each. */
    AnyText square(boolean small) {
        tokens.clear();
        int cells = 16;
        if (by(3, 4)) {
            int wide = 1 + below(5);
            int high = 1 + below(5);
            put("square", wide, "by", high, ";");
            cells = wide * high;
        }
        List<String> names = new ArrayList<>(List.of(NAMES));
        Collections.shuffle(names, random);
        int tunes = many(small ? 2 : 6);
        for (int i = 0; i < tunes; i++) {
            put("tune", names.get(i), ";");
        }
        List<Integer> parts = new ArrayList<>();
        addParts(parts, 0, many(small ? 2 : 6));
        addParts(parts, 1, many(small ? 1 : 4));
        addParts(parts, 2, below(2));
        addParts(parts, 3, below(2));
        Collections.shuffle(parts, random);
        for (int part : parts) {
            putPart(part, cells, names.subList(0, tunes));
        }
        return this;
    }

    private static void addParts(List<Integer> parts, int part, int many) {
        parts.addAll(Collections.nCopies(many, part));
    }

    private void putPart(int part, int cells, List<String> tunes) {
        if (part == 0) {
            putHearer(cells, tunes);
        } else if (part == 1) {
            put("dog", "at", below(cells), ";");
        } else if (part == 2) {
            put("odds", below(17), ";");
        } else {
            put("organ", below(cells), ";");
        }
    }

    private void putHearer(int cells, List<String> tunes) {
        put("hearer", "at", below(cells));
        if (by(1, 2)) {
            put("coins", by(1, 4) ? 99 : below(8));
        }
        if (by(4, 5)) {
            put("likes");
            List<String> liked = new ArrayList<>(tunes);
            Collections.shuffle(liked, random);
            liked.subList(0, below(tunes.size() + 1)).forEach(name -> put(name));
        }
        put(";");
    }

    /** DAYS that can be taken by a SQUARE, if they are not too long; many STEPS are short ones. */
    AnyText days(Model of, int wanted) {
        tokens.clear();
        steps = 0;
        putSteps(of, wanted, 0);
        return this;
    }

    private void putSteps(Model of, int wanted, int within) {
        for (int i = 0; i < wanted && steps < Math.max(wanted, 30); i++) {
            int kind = wanted > 20 && by(4, 5) ? 10 : below(11);
            steps++;
            if (kind < 7) {
                putDeed(of, kind);
            } else if (kind < 10 && within < 3) {
                putBlock(of, within);
            } else if (by(1, 6)) {
                put("stop", ";");
            } else {
                put("any", ";");
            }
        }
    }

    private void putDeed(Model of, int kind) {
        if (kind < 2 && of.tunes > 0) {
            put("play", of.names.get(below(of.tunes)));
        } else if (kind == 3 && !of.hearers.isEmpty()) {
            put("send", below(of.hearers.size()), below(of.cells()));
        } else if (kind == 4 || kind == 0) {
            put(by(1, 2) ? "grind" : "throw", below(of.cells()));
        } else {
            put(kind == 5 ? "brush" : kind == 6 ? "empty" : "any");
        }
        put(";");
    }

    private void putBlock(Model of, int within) {
        if (by(1, 2)) {
            put("loop", by(1, 3) ? 99 : 1 + below(12), ";");
        } else {
            put("when");
            putTest(of);
            put(";");
        }
        putSteps(of, below(4), within + 1);
        put("end", ";");
    }

    private void putTest(Model of) {
        String sign = SIGNS[1 + below(3)];
        int kind = below(4);
        if (kind == 0 && !of.dogs.isEmpty()) {
            put("up", below(of.dogs.size()));
        } else if (kind == 1 && !of.hearers.isEmpty()) {
            put("seen", below(of.hearers.size()));
        } else if (kind == 2 && !of.hearers.isEmpty()) {
            put("far", below(of.hearers.size()), sign, below(9));
        } else {
            put("cup", sign, by(1, 6) ? 9999 : below(8));
        }
    }

    /** Leaves out, sets twice, sets in or changes some TOKENS. */
    AnyText spoilt() {
        int times = 1 + below(2);
        for (int i = 0; i < times; i++) {
            int at = below(tokens.size() + 1);
            int kind = below(9);
            if (at == tokens.size() || kind == 0) {
                tokens.add(at, odd());
            } else if (kind == 1) {
                tokens.remove(at);
            } else if (kind == 2) {
                tokens.add(at, tokens.get(below(tokens.size())));
            } else if (kind == 3) {
                tokens.subList(at, tokens.size()).clear();
            } else if (kind <= 5) {
                twice(at);
            } else {
                tokens.set(at, kind == 6 ? odd() : like(tokens.get(at)));
            }
        }
        return this;
    }

    /** Another TOKEN of the same kind, which often can stand there and is wrong by what it says. */
    private String like(String token) {
        int sort = sort(token.charAt(0));
        if (sort == 0) {
            return SIGNS[below(SIGNS.length)];
        }
        if (sort == 2) {
            return NUMBERS[below(NUMBERS.length)];
        }
        boolean isName = !ModelText.RESERVED.contains(token);
        return isName ? NAMES[below(NAMES.length)] : ModelText.RESERVED.get(below(ModelText.RESERVED.size()));
    }

    /** Sets a whole PART or STEP in once more, now and then often enough for one too many. */
    private void twice(int near) {
        int at = near;
        while (at > 0 && !tokens.get(at - 1).equals(";")) {
            at--;
        }
        int end = at;
        while (end < tokens.size() && !tokens.get(end).equals(";")) {
            end++;
        }
        List<String> part = new ArrayList<>(tokens.subList(at, Math.min(end + 1, tokens.size())));
        int times = by(1, 2) ? 1 : 1 + below(6);
        for (int i = 0; i < times; i++) {
            tokens.addAll(at, part);
        }
    }

    private String odd() {
        int kind = below(4);
        return kind == 0 ? ODD[below(ODD.length)] : like(kind == 1 ? "0" : kind == 2 ? ";" : by(1, 2) ? "a" : "end");
    }

    /** The bytes, as signs 0 to 255; two WORDS or two NUMBERS would be one without a blank. */
    String told() {
        StringBuilder text = new StringBuilder();
        boolean wide = by(1, 6);
        for (String token : tokens) {
            boolean needed = text.length() > 0 && sort(text.charAt(text.length() - 1)) == sort(token.charAt(0))
                    && sort(token.charAt(0)) > 0;
            if (needed || wide && by(1, 2)) {
                text.append(by(1, 5) ? '\n' : ' ');
            }
            text.append(token);
        }
        return text.toString();
    }

    private static int sort(char sign) {
        return sign >= 'a' && sign <= 'z' ? 1 : sign >= '0' && sign <= '9' ? 2 : 0;
    }
}
