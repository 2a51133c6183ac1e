import java.lang.reflect.Constructor;
import java.lang.reflect.Field;
import java.lang.reflect.Method;
import java.lang.reflect.Modifier;
import java.nio.file.Files;
import java.nio.file.Path;
import java.util.Arrays;
import java.util.HashSet;
import java.util.Set;
import java.util.TreeSet;
import java.util.regex.Matcher;
import java.util.regex.Pattern;
import java.util.stream.Collectors;

/** The face is the document's and no more, and the source keeps to what of LANGUAGE.md can be seen from it. */
public final class FaceTest {
    private static final Check C = new Check("FaceTest");
    private static final String FACE = "int status()|long top()|long bottom()|boolean tray(int,int,int)|"
            + "boolean write(int,int,long)|long read(int,int)|boolean pour(int,int,int,int,int)|"
            + "int feed(int,int,int,int,int)|int square(int)|int days(int)|int fault(int)|int told(int)|"
            + "int hearer(int,int)|int dog(int,int)|int cell(int,int)|int likers(int)|int play(int)|int grind(int)|"
            + "int throwAt(int)|int brush()|int send(int,int)|int give(int,int)|boolean teach(int,int,boolean)|"
            + "int come(int)|int empty()|boolean rule(int)|int takings(int,int)|int pitch(int,int,int)|"
            + "int bestPitch(int,int)|int soon(int)|int gather(int)|int gatherAt(int,int)|int explain(int)|"
            + "int placings(int,int)|boolean oddsThat(int,int,int)|int aim(int,int)|int cover(int,int)|"
            + "int coverAt(int,int,int)|int fits(int,int,int)|int sure(int,int,int)|int rounds(int,int)|"
            + "int knowers(int,int,int)|int game(int)|int moveOf(int)|boolean crowd(int)|boolean share(int)|"
            + "int copyCells(int)|int live(int)|int lived(int)|boolean mean(int,int)|int mark()|int undo()";

    public static void main(String[] args) throws Exception {
        face();
        members();
        source();
        C.end();
    }

    private static void face() {
        Set<String> got = new TreeSet<>();
        for (Method m : UnseenRing.class.getDeclaredMethods()) {
            if (Modifier.isPublic(m.getModifiers())) {
                got.add(m.getReturnType() + " " + m.getName() + "(" + Arrays.stream(m.getParameterTypes())
                        .map(Class::getName).collect(Collectors.joining(",")) + ")");
            }
        }
        Set<String> want = new TreeSet<>(Arrays.asList(FACE.split("\\|")));
        C.due("the face has 52 methods", want.size(), 52);
        for (String m : want) {
            C.due("there is " + m, got.contains(m), true);
        }
        for (String m : got) {
            C.due("wanted is " + m, want.contains(m), true);
        }
        C.due("public and final", UnseenRing.class.getModifiers(), Modifier.PUBLIC | Modifier.FINAL);
        C.due("NONE", UnseenRing.NONE, -1);
    }

    private static void members() {
        Class<?> c = UnseenRing.class;
        Set<String> names = new HashSet<>();
        for (Method m : c.getDeclaredMethods()) {
            if (Modifier.isPublic(m.getModifiers())) {
                names.add(m.getName());
            } else {
                C.due("private " + m, Modifier.isPrivate(m.getModifiers()), true);
            }
            C.due("parameters of " + m, m.getParameterCount() <= 7, true);
        }
        for (Method m : c.getDeclaredMethods()) {
            C.due("name of " + m, Modifier.isPublic(m.getModifiers()) || !names.contains(m.getName()), true);
        }
        for (Field f : c.getDeclaredFields()) {
            C.due("private " + f, Modifier.isPrivate(f.getModifiers()) != f.getName().equals("NONE"), true);
        }
        for (Constructor<?> k : c.getDeclaredConstructors()) {
            C.due("constructor " + k, k.getParameterCount() == 0 && Modifier.isPublic(k.getModifiers()), true);
        }
        C.due("classes", c.getDeclaredClasses().length < 12, true);
        for (Class<?> inside : c.getDeclaredClasses()) {
            C.due("static " + inside, Modifier.isStatic(inside.getModifiers()), true);
            int fields = 0;
            for (Field f : inside.getDeclaredFields()) {
                fields += Modifier.isStatic(f.getModifiers()) ? 0 : 1;
                C.due("final " + f, Modifier.isStatic(f.getModifiers()) && !Modifier.isFinal(f.getModifiers()), false);
            }
            C.due("fields of " + inside, fields <= 20, true);
            for (Method m : inside.getDeclaredMethods()) {
                C.due("name of " + m, names.contains(m.getName()), false);
                C.due("parameters of " + m, m.getParameterCount() <= 7, true);
            }
        }
    }

    private static void source() throws Exception {
        String source = Files.readString(Path.of("src/main/java/UnseenRing.java"));
        String code = source.replaceAll("(?s)/\\*.*?\\*/", "").replaceAll("//[^\n]*", "").replaceAll("\"[^\"\n]*\"", "TEXT");
        String[] banned = {"\\bthrow\\b", "\\btry\\b", "\\bcatch\\b", "\\bsynchronized\\b", "\\bassert\\b", "->", "::",
            "\\bpackage\\b", "Exact\\b", "\\bSystem\\.(?!arraycopy)", "\\bhashCode\\b", "\\btoString\\b", "\\bwhile\\b",
            "\\bRandom\\b", "TEXT\\s*\\+", "\\+\\s*TEXT", "\\bdouble\\b", "\\bfloat\\b", "\\bvar\\b", "\\bprotected\\b"};
        for (String word : banned) {
            C.due("no " + word, Pattern.compile(word).matcher(code).find(), false);
        }
        Matcher imports = Pattern.compile("import ([^;]*);").matcher(code);
        while (imports.find()) {
            C.due("import of " + imports.group(1), imports.group(1).equals("java.util.Arrays"), true);
        }
        for (char sign : source.toCharArray()) {
            C.due("a sign of the source", sign < 128, true);
        }
        methodLengths(code);
    }

    /** Methods of the class begin behind four blanks, those of the classes inside it behind eight. */
    private static void methodLengths(String code) {
        String[] lines = code.split("\n");
        int begun = -1;
        String end = "";
        for (int i = 0; i < lines.length; i++) {
            Matcher begin = Pattern.compile("^( {4}| {8})[a-z].*\\) \\{$").matcher(lines[i]);
            if (begun < 0 && begin.find()) {
                begun = i;
                end = begin.group(1) + "}";
            } else if (begun >= 0 && lines[i].equals(end)) {
                C.due("lines of " + lines[begun], i - begun < 60, true);
                begun = -1;
            }
        }
    }
}
