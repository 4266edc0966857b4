import java.io.IOException;
import java.lang.reflect.InvocationTargetException;
import java.lang.reflect.Method;
import java.net.URL;
import java.net.URLClassLoader;
import java.nio.file.Files;
import java.nio.file.Path;
import java.util.ArrayList;
import java.util.List;
import java.util.Map;
import java.util.TreeMap;
import java.util.concurrent.Callable;
import java.util.regex.Matcher;
import java.util.regex.Pattern;
import java.util.stream.Stream;
import javax.tools.ToolProvider;

/** Tests that README.md says what the program does: its examples are run, its tables compared with the face. */
public final class ReadmeTests extends MintChecks {
    private static final Pattern EXAMPLE = Pattern.compile("```java\n(.*?)```", Pattern.DOTALL);
    private static final Pattern ANSWERED = Pattern.compile("(mint\\..*); +// (.*)");
    private static final Pattern CALL_ROW = Pattern.compile("\\| `(\\w+)\\(([a-z, ]*)\\)` \\|[^|]*\\|([^|]*)\\|");
    private static final Pattern ORDER_ROW = Pattern.compile("\\| `([^`(]+)` \\|[^|]*\\|");
    private static final Map<String, String> THROWN = Map.of("IndexOutOfBoundsException", "index",
        "IllegalArgumentException", "argument", "IllegalStateException", "state");

    public static void main(String[] args) throws Exception {
        String readme = Files.readString(Path.of("README.md"));
        examples(readme);
        callsOfTheFace(readme);
        orders(readme);
        exceptions(readme);
        testsAreNamed(readme);
        finish();
    }

    // ---- examples

    private static void examples(String readme) throws Exception {
        StringBuilder bodies = new StringBuilder();
        Matcher example = EXAMPLE.matcher(readme);
        int examples = 0;
        while (example.find()) {
            // Each example makes a mint of its own, and so needs a block of its own.
            bodies.append("{\n").append(withChecks(example.group(1))).append("}\n");
            examples++;
        }
        holds("README.md has examples", examples > 0);
        run("public final class ReadmeExamples {\n    public static void run() {\n" + bodies + "    }\n}\n");
    }

    private static String withChecks(String example) {
        StringBuilder checked = new StringBuilder();
        int answers = 0;
        for (String line : example.split("\n")) {
            Matcher answered = ANSWERED.matcher(line);
            if (answered.matches()) {
                String call = answered.group(1);
                checked.append("ReadmeTests.answers(\"").append(call).append("\", () -> ").append(call)
                    .append(", \"").append(answered.group(2)).append("\");\n");
                answers++;
            } else {
                checked.append(line).append('\n');
            }
        }
        holds("the example tells answers: " + example, answers > 0);
        return checked.toString();
    }

    /** For the compiled examples. */
    public static void answers(String call, Callable<?> program, String want) {
        String got;
        try {
            got = String.valueOf(program.call());
        } catch (Exception e) {
            got = "throws " + e.getClass().getSimpleName();
        }
        same("README.md: " + call, got, want);
    }

    private static void run(String source) throws Exception {
        Path directory = Files.createTempDirectory("readme");
        try {
            Path file = directory.resolve("ReadmeExamples.java");
            Files.writeString(file, source);
            int failed = ToolProvider.getSystemJavaCompiler().run(null, null, null, "-d", directory.toString(),
                "-cp", System.getProperty("java.class.path"), file.toString());
            due("javac of the examples of README.md", failed, 0);
            if (failed == 0) {
                runCompiled(directory);
            }
        } finally {
            delete(directory);
        }
    }

    private static void runCompiled(Path directory) throws Exception {
        try (URLClassLoader loader = new URLClassLoader(new URL[] {directory.toUri().toURL()})) {
            loader.loadClass("ReadmeExamples").getMethod("run").invoke(null);
        } catch (InvocationTargetException e) {
            same("the examples of README.md", String.valueOf(e.getCause()), "no exception");
        }
    }

    private static void delete(Path directory) throws IOException {
        try (Stream<Path> files = Files.list(directory)) {
            for (Path file : files.toList()) {
                Files.delete(file);
            }
        }
        Files.delete(directory);
    }

    // ---- tables

    private static void callsOfTheFace(String readme) {
        Map<String, String> rows = new TreeMap<>();
        Matcher row = CALL_ROW.matcher(readme);
        while (row.find()) {
            int parameters = row.group(2).isEmpty() ? 0 : row.group(2).split(", ").length;
            String thrown = row.group(3).replaceAll("\\([^)]*\\)", "").replaceAll("[ ,]+", " ").strip();
            String before = rows.put(row.group(1), parameters + " " + thrown);
            holds("README.md tells " + row.group(1) + " once", before == null);
        }
        Map<String, String> face = new TreeMap<>();
        for (Method method : PluralMint.class.getMethods()) {
            if (method.getDeclaringClass() == PluralMint.class) {
                face.put(method.getName(), method.getParameterCount() + " " + thrownBy(method));
            }
        }
        face.forEach((name, want) -> same("README.md's row of " + name, rows.getOrDefault(name, "no row"), want));
        due("rows of calls in README.md", rows.size(), face.size());
    }

    private static String thrownBy(Method method) {
        List<String> thrown = new ArrayList<>();
        for (Class<?> exception : method.getExceptionTypes()) {
            thrown.add(THROWN.get(exception.getSimpleName()));
        }
        return String.join(" ", thrown);
    }

    /** Each order that the page shows is valid, all of them together are, too, and none is impossible. */
    private static void orders(String readme) {
        List<String> orders = new ArrayList<>();
        Matcher row = ORDER_ROW.matcher(readme);
        while (row.find()) {
            orders.add(row.group(1));
            errorDue(row.group(1), NONE);
            impossibleDue(new PluralMint(), row.group(1), NONE);
        }
        due("rows of orders in README.md", orders.size(), 6);
        PluralMint m = mint(String.join(";", orders));
        due("nouns that the orders of README.md bring", m.nouns(), 1);
        due("irregular words that they bring", m.irregulars(), 1);
        due("dies that they bring", m.dies(), 5);
    }

    private static void exceptions(String readme) {
        THROWN.forEach((name, word) -> {
            holds("README.md says what " + name + " means", readme.contains("- `" + name + "`: "));
            holds("README.md says which exception is " + word, readme.contains("\"" + word + "\" is an `" + name + "`")
                || readme.contains("\"" + word + "\" an `" + name + "`")
                || readme.contains("\"" + word + "\" an\n`" + name + "`"));
        });
    }

    private static void testsAreNamed(String readme) throws IOException {
        holds("README.md says how to run the tests", readme.contains("\nbash .ci/run\n"));
        try (Stream<Path> tests = Files.list(Path.of("tests"))) {
            tests.filter(test -> test.toString().endsWith(".java"))
                .forEach(test -> holds("README.md names " + test, readme.contains("`tests/" + test.getFileName() + "`")));
        }
    }
}
