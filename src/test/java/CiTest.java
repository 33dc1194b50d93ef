import java.io.IOException;
import java.io.UncheckedIOException;
import java.nio.file.Files;
import java.nio.file.Path;
import java.util.Comparator;
import java.util.List;
import java.util.stream.Stream;

/** The script .ci/run itself, in small projects of the same form: what fails in any way is refused. */
final class CiTest {
    private static final Path SCRIPT = Path.of(".ci/run");
    private static final String MAIN = "src/main/java/CaravanRoute.java";
    private static final String OWN = "src/test/java/";
    private static final String SHARED = "../shared/tests/";
    private static final String WELL = " { public static void main(String[] words) { Helper.help(); } }\n"
        + "final class Helper { static void help() { } }";
    private static final String FAILING = " { public static void main(String[] words) { System.exit(1); } }";
    private static final String THROWING = " { public static void main(String[] words) { throw new IllegalStateException(); } }";
    private static final String BROKEN = " { int }";

    private final Path home;
    private List<String> printed;

    private CiTest() throws IOException {
        home = Files.createTempDirectory("ci").resolve("main");
        write(MAIN, " { }");
        write(OWN + "OwnTest.java", WELL);
        Files.createDirectories(home.resolve(SHARED));
        Files.createDirectories(home.resolve(SCRIPT).getParent());
        Files.copy(SCRIPT, home.resolve(SCRIPT));
    }

    public static void main(String[] words) throws Exception {
        Check.same(SCRIPT + " can be run", Files.isExecutable(SCRIPT), true);
        allIsWell();
        noSharedTest();
        noSharedFolder();
        sharedTestsThatFail();
        ownTestThatFails();
        ownTestThatIsBroken();
        brokenClass();
        Check.end();
    }

    /** Two tests with the same inner names, and one that is called as a test of the project is. */
    private static void allIsWell() throws Exception {
        CiTest project = new CiTest();
        project.write(SHARED + "A.java", WELL);
        project.write(SHARED + "Fault_17b.java", WELL);
        project.write(SHARED + "OwnTest.java", WELL);
        project.ends("all is well: 4 tests ran", 0);
        project.says("passed: A", 1);
        project.says("passed: Fault_17b", 1);
        project.says("passed: OwnTest", 2);
    }

    private static void noSharedTest() throws Exception {
        new CiTest().ends("all is well: 1 tests ran", 0);
    }

    private static void noSharedFolder() throws Exception {
        CiTest project = new CiTest();
        Files.delete(project.home.resolve(SHARED));
        project.ends("not well: 1 failed, 1 tests ran", 1);
    }

    /** One that fails keeps no other from running. */
    private static void sharedTestsThatFail() throws Exception {
        CiTest project = new CiTest();
        project.write(SHARED + "Broken.java", BROKEN);
        project.write(SHARED + "Failing.java", FAILING);
        project.write(SHARED + "Throwing.java", THROWING);
        project.write(SHARED + "Well.java", WELL);
        project.ends("not well: 3 failed, 4 tests ran", 1);
        project.says("FAILED: ../shared/tests/Broken.java does not compile", 1);
        project.says("FAILED: Failing", 1);
        project.says("FAILED: Throwing", 1);
        project.says("passed: Well", 1);
        project.says("passed: OwnTest", 1);
    }

    private static void ownTestThatFails() throws Exception {
        CiTest project = new CiTest();
        project.write(OWN + "FailingTest.java", FAILING);
        project.ends("not well: 1 failed, 2 tests ran", 1);
        project.says("FAILED: FailingTest", 1);
    }

    private static void ownTestThatIsBroken() throws Exception {
        CiTest project = new CiTest();
        project.write(SHARED + "Well.java", WELL);
        project.write(OWN + "BrokenTest.java", BROKEN);
        project.ends("not well: 1 failed, 1 tests ran", 1);
        project.says("FAILED: the tests of the project do not compile", 1);
    }

    private static void brokenClass() throws Exception {
        CiTest project = new CiTest();
        project.write(MAIN, BROKEN);
        project.ends("not well: 2 failed, 0 tests ran", 1);
        project.says("FAILED: " + MAIN + " does not compile", 1);
    }

    /** Writes a class that bears the name of its file. */
    private void write(String file, String body) throws IOException {
        Path path = home.resolve(file);
        Files.createDirectories(path.getParent());
        Files.writeString(path, "final class " + path.getFileName().toString().replace(".java", "") + body);
    }

    private void ends(String lastLine, int due) throws Exception {
        Process process = new ProcessBuilder("sh", home.resolve(SCRIPT).toString()).redirectErrorStream(true).start();
        printed = new String(process.getInputStream().readAllBytes()).lines().toList();
        int exit = process.waitFor();
        remove(home.getParent());
        Check.about(lastLine);
        Check.same("the last line", printed.isEmpty() ? "" : printed.get(printed.size() - 1), lastLine);
        Check.same("the exit code", exit, due);
    }

    private void says(String line, int times) {
        Check.same("times of '" + line + "'", (int) printed.stream().filter(line::equals).count(), times);
    }

    private static void remove(Path folder) throws IOException {
        try (Stream<Path> files = Files.walk(folder)) {
            files.sorted(Comparator.reverseOrder()).forEach(CiTest::delete);
        }
    }

    private static void delete(Path file) {
        try {
            Files.delete(file);
        } catch (IOException e) {
            throw new UncheckedIOException(e);
        }
    }
}
