import java.io.IOException;
import java.lang.reflect.Method;
import java.net.URL;
import java.net.URLClassLoader;
import java.nio.file.Files;
import java.nio.file.Path;
import java.util.ArrayList;
import java.util.List;
import java.util.Set;
import java.util.TreeSet;
import java.util.regex.Matcher;
import java.util.regex.Pattern;
import java.util.stream.Stream;
import javax.tools.ToolProvider;

/** What README.md says is so: its example compiles and answers as it tells, its tables fit the class and the tests. */
public final class ReadmeTest {
    private static final Checks CHECKS = new Checks();
    private static final Path TESTS = Path.of("src/test/java");

    public static void main(String[] args) throws Exception {
        String readme = Files.readString(Path.of("README.md"));
        String edges = Files.readString(Path.of("EDGES.md"));
        example(blockOf(readme));
        rulesTable(readme);
        everyCall(readme);
        classesInside(readme);
        testsNamed(readme + edges);
        everyTest(readme);
        everyPromise(edges);
        methodsNamed(edges);
        CHECKS.holds(".ci/run can be run", Files.isExecutable(Path.of(".ci/run")));
        CHECKS.finish();
    }

    private static List<List<String>> found(String pattern, String text) {
        List<List<String>> all = new ArrayList<>();
        Matcher m = Pattern.compile(pattern).matcher(text);
        while (m.find()) {
            List<String> groups = new ArrayList<>();
            for (int k = 1; k <= m.groupCount(); k++) {
                groups.add(m.group(k));
            }
            all.add(groups);
        }
        return all;
    }

    // ---- the example

    private static String blockOf(String readme) {
        List<List<String>> blocks = found("(?s)```java\n(.*?)```", readme);
        CHECKS.due("examples in Java", blocks.size(), 1);
        return blocks.isEmpty() ? "" : blocks.get(0).get(0);
    }

    private static void example(String block) throws Exception {
        List<String> calls = new ArrayList<>();
        List<Integer> due = new ArrayList<>();
        StringBuilder noting = new StringBuilder();
        for (String line : block.split("\n")) {
            Matcher call = Pattern.compile("(x\\.\\w+\\(.*\\));\\s+// (-?\\d+)\\b.*").matcher(line);
            if (call.matches()) {
                calls.add(call.group(1));
                due.add(Integer.parseInt(call.group(2)));
                noting.append("got.add(").append(call.group(1)).append(");\n");
            } else {
                CHECKS.holds("each call tells its answer: " + line, !line.contains("x."));
                noting.append(line).append('\n');
            }
        }
        List<?> got = (List<?>) compiled(block, noting.toString()).invoke(null);
        CHECKS.holds("a call for each part of the class", calls.size() >= 6);
        CHECKS.due("answers of the example", got.size(), calls.size());
        for (int i = 0; i < Math.min(got.size(), calls.size()); i++) {
            CHECKS.due("the example's " + calls.get(i), (Integer) got.get(i), due.get(i));
        }
    }

    /** The block as it stands must compile too: a reader takes it so. */
    private static Method compiled(String block, String noting) throws Exception {
        Path out = Path.of("build/ReadmeExample");
        Files.createDirectories(out);
        Path source = out.resolve("ReadmeExample.java");
        Files.writeString(source, "public final class ReadmeExample {\n"
                + "static void asItStands() {\n" + block + "}\n"
                + "public static java.util.List<Integer> answers() {\n"
                + "java.util.List<Integer> got = new java.util.ArrayList<>();\n" + noting + "return got;\n}\n}\n");
        int failed = ToolProvider.getSystemJavaCompiler().run(null, null, null, "-d", out.toString(),
                "-cp", System.getProperty("java.class.path"), source.toString());
        CHECKS.due("the example compiles", failed, 0);
        URLClassLoader loader = new URLClassLoader(new URL[] {out.toUri().toURL()});
        return loader.loadClass("ReadmeExample").getMethod("answers");
    }

    // ---- the tables

    /** Each line of the text: its least and its greatest number are taken, those beside them are not. */
    private static void rulesTable(String readme) {
        List<List<String>> numbers =
                found("\\| `(\\w+) N;` \\| (\\d+) to (\\d+) \\| (\\d+) \\| `rule\\((\\d)\\)` \\|", readme);
        CHECKS.due("lines with a number", numbers.size(), 7);
        for (List<String> row : numbers) {
            int what = Integer.parseInt(row.get(4));
            int least = Integer.parseInt(row.get(1));
            int most = Integer.parseInt(row.get(2));
            CHECKS.due(row.get(0) + " at first", new SwipedStripe().rule(what), Integer.parseInt(row.get(3)));
            CHECKS.due(row.get(0) + " least", ruleBehind(lineOf(row.get(0), least), what), least);
            CHECKS.due(row.get(0) + " most", ruleBehind(lineOf(row.get(0), most), what), most);
            CHECKS.due(row.get(0) + " above", faultOf(lineOf(row.get(0), most + 1)), 3);
            if (least > 0) {
                CHECKS.due(row.get(0) + " below", faultOf(lineOf(row.get(0), least - 1)), 3);
            }
        }
        List<List<String>> words =
                found("\\| `(\\w+);` or `(\\w+);` \\| *\\| `(\\w+)` \\| `rule\\((\\d)\\)`: 1, 0 \\|", readme);
        CHECKS.due("lines of a word", words.size(), 2);
        for (List<String> row : words) {
            int what = Integer.parseInt(row.get(3));
            CHECKS.due(row.get(0), ruleBehind(row.get(0) + ";", what), 1);
            CHECKS.due(row.get(1), ruleBehind(row.get(1) + ";", what), 0);
            CHECKS.due(row.get(2), ruleBehind(row.get(2) + ";", what), new SwipedStripe().rule(what));
        }
    }

    /** BEGIN and CLOSE are values of d bits, so their greatest numbers ask for others beside them. */
    private static String lineOf(String name, int v) {
        String line = name + " " + v + ";";
        return switch (name) {
            case "bits" -> line + "begin 1;close 2;";
            case "begin" -> line + "bits 6;close 1;";
            case "close" -> line + "bits 6;begin 1;";
            default -> line;
        };
    }

    private static int ruleBehind(String text, int what) {
        SwipedStripe x = new SwipedStripe();
        return Hand.tell(x, text) > 0 ? x.rule(what) : Integer.MIN_VALUE;
    }

    private static int faultOf(String text) {
        SwipedStripe x = new SwipedStripe();
        Hand.tell(x, text);
        return x.fault();
    }

    private static void everyCall(String readme) {
        Set<String> calls = new TreeSet<>();
        found("`(\\w+)\\([^`]*\\)`", readme).forEach(call -> calls.add(call.get(0)));
        for (Method m : SwipedStripe.class.getMethods()) {
            if (m.getDeclaringClass() == SwipedStripe.class) {
                CHECKS.holds("README.md tells of " + m.getName(), calls.remove(m.getName()));
            }
        }
        CHECKS.holds("README.md tells of calls that are none: " + calls, calls.isEmpty());
    }

    private static void classesInside(String readme) {
        String table = readme.substring(Math.max(0, readme.indexOf("| class |")));
        Set<String> told = new TreeSet<>();
        found("(?m)^\\| (`.*?) \\|", table).forEach(row -> found("`(\\w+)`", row.get(0)).forEach(c -> told.add(c.get(0))));
        Set<String> there = new TreeSet<>();
        for (Class<?> c : SwipedStripe.class.getDeclaredClasses()) {
            there.add(c.getSimpleName());
        }
        CHECKS.holds("the classes inside " + there + ", told are " + told, told.equals(there));
    }

    // ---- the tests

    private static void testsNamed(String text) {
        for (List<String> name : found("(?<!\\*)\\b(\\w+Test)\\b", text)) {
            CHECKS.holds(name + " is there", Files.exists(TESTS.resolve(name.get(0) + ".java"))
                    || Files.exists(Path.of("../shared/tests", name.get(0) + ".java")));
        }
    }

    private static void everyTest(String readme) throws IOException {
        try (Stream<Path> files = Files.list(TESTS)) {
            files.map(f -> f.getFileName().toString().replace(".java", "")).forEach(name ->
                    CHECKS.holds("README.md tells of " + name, readme.contains("`" + name + "`")));
        }
    }

    private static void everyPromise(String edges) throws IOException {
        List<List<String>> promises =
                found("(?m)^## Promise (\\d+): (.*)$", Files.readString(Path.of("../shared/DOC.md")));
        CHECKS.due("promises", promises.size(), 37);
        for (List<String> promise : promises) {
            String told = promise.get(0) + " " + promise.get(1);
            CHECKS.holds("EDGES.md tells of promise " + told,
                    Pattern.compile("[|,] " + Pattern.quote(told) + "[ ,]").matcher(edges).find());
        }
    }

    /** A name without a test's name ahead of it is a method of the test that was named last in its row. */
    private static void methodsNamed(String edges) throws IOException {
        int methods = 0;
        for (String row : edges.split("\n")) {
            String test = "";
            String column = row.substring(row.lastIndexOf(" | ") + 1);
            for (List<String> name : found(row.startsWith("|") ? "`([\\w./]+)`" : "(?!)", column)) {
                String[] parts = name.get(0).substring(name.get(0).lastIndexOf('/') + 1).split("\\.");
                if (parts.length == 2 || parts[0].endsWith("Test") || parts[0].equals("Checks")) {
                    test = parts[0];
                }
                if (!parts[parts.length - 1].equals(test)) {
                    methods++;
                    isMethod(test, parts[parts.length - 1]);
                }
            }
        }
        CHECKS.holds("EDGES.md names methods", methods > 37);
    }

    private static void isMethod(String test, String method) throws IOException {
        Path file = TESTS.resolve(test + ".java");
        CHECKS.holds(test + " has " + method, Files.exists(file)
                && Pattern.compile("\\bvoid " + method + "\\(").matcher(Files.readString(file)).find()
                && Pattern.compile("(?m)^ {8}" + method + "\\(").matcher(Files.readString(file)).find());
    }
}
