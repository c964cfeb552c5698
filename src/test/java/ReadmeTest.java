import java.io.IOException;
import java.net.URL;
import java.net.URLClassLoader;
import java.nio.file.Files;
import java.nio.file.Path;
import java.util.ArrayList;
import java.util.HashMap;
import java.util.List;
import java.util.Map;
import java.util.regex.Matcher;
import java.util.regex.Pattern;
import java.util.stream.Stream;
import javax.tools.JavaCompiler;
import javax.tools.ToolProvider;

/** The example of README.md, compiled and run as it stands there, answers what it says; its table tells the constants. */
public final class ReadmeTest {
    /** A call with what it answers behind it; such a line alone says what a call answers. */
    static final Pattern CALL = Pattern.compile("x\\.(\\w+)\\(([^;]*)\\);\\s+// (-?\\d+)(: .*|)");
    /** Lines that only prepare: nothing is said of what they answer. */
    static final Pattern PREPARES = Pattern.compile("CrossedRings x = new CrossedRings\\(\\);|String \\w+ = \"[^\"]*\";|for \\(.*\\) x\\.put\\([^;]*\\);");
    static final Pattern CONSTANT = Pattern.compile("(?m)^\\| `([A-Z]+)` \\| (-?\\d+) \\| \\S.* \\|$");

    static int wrong = 0;
    static int calls = 0;

    public static void main(String[] args) throws Exception {
        String page = Files.readString(Path.of("README.md"));
        List<String> example = example(page);
        checkLines(example);
        if (wrong == 0) {
            runExample(example);
        }
        checkTable(page);
        System.out.println(wrong == 0 ? calls + " calls of README.md answer what it says" : wrong + " things in README.md are not so");
        if (wrong != 0) {
            System.exit(1);
        }
    }

    static void check(boolean right, String what) {
        if (!right) {
            wrong++;
            System.out.println("not so: " + what);
        }
    }

    /** Called by the example, behind each of its calls. */
    public static void due(String call, long got, long due) {
        calls++;
        check(got == due, "README.md says that " + call + " answers " + due + ", it answered " + got);
    }

    /** The lines of all Java parts of the page, one behind the other: they are one run. */
    static List<String> example(String page) {
        List<String> lines = new ArrayList<>();
        Matcher part = Pattern.compile("(?s)```java\n(.*?)```").matcher(page);
        while (part.find()) {
            lines.addAll(part.group(1).lines().toList());
        }
        return lines;
    }

    static void checkLines(List<String> example) {
        check(!example.isEmpty(), "there is an example");
        for (String line : example) {
            check(CALL.matcher(line).matches() || PREPARES.matcher(line).matches(), "a line prepares, or says what its call answers: " + line);
        }
    }

    static void runExample(List<String> example) throws Exception {
        StringBuilder source = new StringBuilder("public class ReadmeExample {\npublic static void main(String[] args) {\n");
        for (String line : example) {
            Matcher call = CALL.matcher(line);
            if (call.matches()) {
                String made = "x." + call.group(1) + "(" + call.group(2) + ")";
                source.append("ReadmeTest.due(\"").append(made).append("\", ").append(made).append(", ").append(call.group(3)).append("L);\n");
            } else {
                source.append(line).append('\n');
            }
        }
        source.append("}\n}\n");
        Path dir = Files.createTempDirectory("readme");
        try {
            compileAndRun(dir, source.toString());
        } finally {
            empty(dir);
        }
        long told = example.stream().filter(line -> CALL.matcher(line).matches()).count();
        check(calls == told, "each call of the example was made");
    }

    static void compileAndRun(Path dir, String source) throws Exception {
        Path file = Files.writeString(dir.resolve("ReadmeExample.java"), source);
        JavaCompiler javac = ToolProvider.getSystemJavaCompiler();
        boolean compiled = javac != null && javac.run(null, null, null, "--release", "17", "-cp", System.getProperty("java.class.path"),
                "-d", dir.toString(), file.toString()) == 0;
        check(compiled, "the example compiles");
        if (compiled) {
            try (URLClassLoader loader = new URLClassLoader(new URL[] {dir.toUri().toURL()})) {
                loader.loadClass("ReadmeExample").getMethod("main", String[].class).invoke(null, (Object) new String[0]);
            }
        }
    }

    static void empty(Path dir) throws IOException {
        try (Stream<Path> files = Files.list(dir)) {
            for (Path file : files.toList()) {
                Files.delete(file);
            }
        }
        Files.delete(dir);
    }

    static void checkTable(String page) {
        Map<String, Integer> due = new HashMap<>(Map.of("BAD", CrossedRings.BAD, "FULL", CrossedRings.FULL, "FINDING", CrossedRings.FINDING,
                "STATE", CrossedRings.STATE, "SPENT", CrossedRings.SPENT, "NONE", CrossedRings.NONE));
        Matcher row = CONSTANT.matcher(page);
        while (row.find()) {
            Integer value = due.remove(row.group(1));
            check(value != null && value == Integer.parseInt(row.group(2)), "the table tells " + row.group());
        }
        check(due.isEmpty(), "the table tells all constants; left out: " + due.keySet());
    }
}
