import java.io.File;
import java.net.URL;
import java.net.URLClassLoader;
import java.nio.file.Files;
import java.nio.file.Path;
import java.util.ArrayList;
import java.util.List;
import java.util.regex.Matcher;
import java.util.regex.Pattern;
import javax.tools.ToolProvider;

/**
 * The example in README.md is compiled and run as it stands there: each line that names an answer behind // must give
 * it. README.md names every test.
 */
public final class ReadmeTest {
    private static final Check C = new Check("ReadmeTest");
    private static final Pattern BLOCK = Pattern.compile("(?s)```java\n(.*?)```");
    private static final Pattern ANSWER = Pattern.compile("^ *(?:int|long|boolean) (\\w+) = .*; +// (-?\\d+|true|false)\\b.*$");

    public static void main(String[] args) throws Exception {
        String readme = Files.readString(Path.of("README.md"));
        List<String> blocks = new ArrayList<>();
        for (Matcher found = BLOCK.matcher(readme); found.find();) {
            blocks.add(found.group(1));
        }
        C.due("two blocks of Java: the example, and what feeds a text", blocks.size(), 2);
        if (blocks.size() == 2) {
            example(blocks.get(0), blocks.get(1));
        }
        names(readme);
        C.end();
    }

    private static void example(String statements, String helpers) throws Exception {
        StringBuilder source = new StringBuilder("public final class ReadmeExample {\n" + helpers
                + "static void due(java.util.List<String> all, String line, Object got, Object want) {\n"
                + "all.add(got.equals(want) ? \"\" : line.strip() + \" answered \" + got);\n}\n"
                + "public static java.util.List<String> run() {\n"
                + "java.util.List<String> all = new java.util.ArrayList<>();\n");
        int answers = 0;
        for (String line : statements.split("\n")) {
            source.append(line).append("\n");
            Matcher answer = ANSWER.matcher(line);
            if (answer.matches()) {
                answers++;
                String want = answer.group(2);
                String told = line.replace("\\", "\\\\").replace("\"", "\\\"");
                String got = want.matches("true|false") ? answer.group(1) : "(long) " + answer.group(1);
                source.append("due(all, \"").append(told).append("\", ").append(got).append(", ");
                source.append(want.matches("true|false") ? want : want + "L").append(");\n");
            }
        }
        source.append("return all;\n}\n}\n");
        C.due("the example tells some answers", answers >= 12, true);
        List<String> all = run(source.toString());
        C.due("answers that were asked", all.size(), answers);
        for (String wrong : all) {
            C.due("README.md: " + wrong, wrong.isEmpty(), true);
        }
    }

    private static List<String> run(String source) throws Exception {
        Path out = Files.createDirectories(Path.of("build", "readme"));
        Path file = Files.writeString(out.resolve("ReadmeExample.java"), source);
        int failed = ToolProvider.getSystemJavaCompiler().run(null, null, null, "-cp",
                System.getProperty("java.class.path"), "-d", out.toString(), file.toString());
        C.due("the example compiles", failed, 0);
        List<String> all = new ArrayList<>();
        if (failed == 0) {
            try (URLClassLoader loader = new URLClassLoader(new URL[] {out.toUri().toURL()})) {
                Object answers = loader.loadClass("ReadmeExample").getMethod("run").invoke(null);
                for (Object one : (List<?>) answers) {
                    all.add(one.toString());
                }
            }
        }
        return all;
    }

    private static void names(String readme) {
        for (String file : new File("src/test/java").list()) {
            String name = file.replace(".java", "");
            C.due("README.md names " + name, readme.contains("`" + name + "`"), true);
        }
    }
}
