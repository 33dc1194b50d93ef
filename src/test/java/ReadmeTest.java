import java.net.URL;
import java.net.URLClassLoader;
import java.nio.file.Files;
import java.nio.file.Path;
import java.util.ArrayList;
import java.util.List;
import java.util.TreeSet;
import java.util.regex.Matcher;
import java.util.regex.Pattern;
import java.util.stream.Stream;
import javax.tools.ToolProvider;

/** What README.md says: its examples, one after the other, answer as they say, and its tables name the tests. */
final class ReadmeTest {
    private static final Pattern BLOCK = Pattern.compile("(?ms)^```java\n(.*?)^```$");
    /** A call and, behind the slashes, its answer; a colon ends it. */
    private static final Pattern EXAMPLE = Pattern.compile("(route\\.\\w+\\(.*\\)); +// ([^:]+)(:.*)?");
    private static final Pattern ROW = Pattern.compile("(?m)^\\| `(\\w+)`.*$");

    private final StringBuilder helpers = new StringBuilder();
    private final StringBuilder body = new StringBuilder();
    private final List<String> calls = new ArrayList<>();
    private final List<String> due = new ArrayList<>();

    public static void main(String[] words) throws Exception {
        String readme = Files.readString(Path.of("README.md"));
        new ReadmeTest().examples(readme);
        tables(readme);
        for (String said : List.of("../shared/DOC.md", "../shared/LANGUAGE.md", "    .ci/run\n", "javac", "512 calls",
            "new CaravanRoute()", "\n    passed: ", "\n    all is well: ", "\n    FAILED: ", "\n    not well: ")) {
            Check.same("says '" + said.trim() + "'", readme.contains(said), true);
        }
        Check.end();
    }

    private void examples(String readme) throws Exception {
        Matcher blocks = BLOCK.matcher(readme);
        while (blocks.find()) {
            if (blocks.group(1).startsWith("static ")) {
                helpers.append(blocks.group(1));
            } else {
                blocks.group(1).lines().forEach(this::statement);
            }
        }
        Check.same("examples were found", calls.size() > 20, true);
        List<?> answers = answers();
        for (int i = 0; i < calls.size(); i++) {
            Check.same("README: " + calls.get(i), answers.get(i), due.get(i));
        }
    }

    private void statement(String line) {
        Matcher example = EXAMPLE.matcher(line);
        if (!example.matches()) {
            body.append(line).append('\n');
            return;
        }
        calls.add(example.group(1));
        due.add(example.group(2).trim());
        body.append("try { answers.add(String.valueOf(").append(example.group(1))
            .append(")); } catch (RuntimeException e) { answers.add(e.getClass().getSimpleName()); }\n");
    }

    /** Compiles the examples into a class of their own and runs it. */
    private List<?> answers() throws Exception {
        Path folder = Files.createTempDirectory("readme");
        Path source = folder.resolve("Examples.java");
        Path compiled = folder.resolve("Examples.class");
        try {
            Files.writeString(source, "public final class Examples {\n"
                + "public static java.util.List<String> answers() {\n"
                + "java.util.List<String> answers = new java.util.ArrayList<>();\n"
                + body + "return answers;\n}\n" + helpers + "}\n");
            int exit = ToolProvider.getSystemJavaCompiler().run(null, null, null, "-cp", System.getProperty("java.class.path"),
                "-d", folder.toString(), source.toString());
            Check.same("exit code of javac for the examples", exit, 0);
            try (URLClassLoader loader = new URLClassLoader(new URL[] {folder.toUri().toURL()})) {
                return (List<?>) loader.loadClass("Examples").getMethod("answers").invoke(null);
            }
        } finally {
            Files.deleteIfExists(source);
            Files.deleteIfExists(compiled);
            Files.delete(folder);
        }
    }

    /** The rows are the files whose tests are run: *Test.java, and Edge*.java, which EdgesTest runs. */
    private static void tables(String readme) throws Exception {
        TreeSet<String> rows = new TreeSet<>();
        Matcher matcher = ROW.matcher(readme);
        while (matcher.find()) {
            Matcher names = Pattern.compile("`(\\w+)`").matcher(matcher.group().split("\\|")[1]);
            while (names.find()) {
                rows.add(names.group(1));
            }
        }
        TreeSet<String> files = new TreeSet<>();
        try (Stream<Path> paths = Files.list(Path.of("src/test/java"))) {
            paths.map(path -> path.getFileName().toString().replace(".java", ""))
                .filter(name -> name.endsWith("Test") || name.matches("Edge.+"))
                .forEach(files::add);
        }
        Check.same("the tests in README's tables", rows, files);
    }
}
