import java.io.File;
import java.io.IOException;
import java.nio.file.Files;
import java.nio.file.Path;
import java.util.ArrayList;
import java.util.List;

/**
 * .ci/run itself, on small projects: it runs each test of the project and each one under ../shared/tests, and refuses
 * where one of them fails, wherever it stands among the others.
 */
public final class CiRunTest {
    private static final Due DUE = new Due("CiRunTest");
    private static final int AT_ONCE = 4;
    private static final String PASSES = "";
    private static final String FAILS = "System.exit(1);";
    private static final String THROWS = "throw new IllegalStateException();";
    private static final String NO_JAVA = "this is no statement";
    private static final String READS = "try { while (System.in.read() >= 0) { } } catch (java.io.IOException e) { }";
    private static final String TESTS = "main/src/test/java/";
    private static final String SHARED = "shared/tests/";

    /** A small project with these files behind those that each has, and what .ci/run is to make of it. */
    private record Project(String what, boolean lands, String sum, List<String> files) {
    }

    private record Started(Project project, Path root, Process process) {
    }

    public static void main(String[] args) throws IOException, InterruptedException {
        List<Project> projects = projects();
        for (int first = 0; first < projects.size(); first += AT_ONCE) {
            List<Started> some = new ArrayList<>();
            for (Project project : projects.subList(first, Math.min(first + AT_ONCE, projects.size()))) {
                some.add(start(project));
            }
            for (Started one : some) {
                compare(one);
            }
        }
        DUE.end();
    }

    private static List<Project> projects() {
        String first = SHARED + "FirstRuns.java";
        return List.of(
                project("all pass", true, "2 tests ran, 0 failed", first, PASSES),
                project("a later shared test passes", true, "3 tests ran, 0 failed",
                        first, PASSES, SHARED + "LaterRuns.java", PASSES),
                project("a test reads its input", true, "3 tests ran, 0 failed",
                        first, READS, SHARED + "LaterRuns.java", PASSES),
                project("a shared test fails, the first one", false, "3 tests ran, 1 failed",
                        first, FAILS, SHARED + "LaterRuns.java", PASSES),
                project("a shared test fails, the last one", false, "3 tests ran, 1 failed",
                        first, PASSES, SHARED + "LaterRuns.java", FAILS),
                project("a shared test fails, further down", false, "3 tests ran, 1 failed",
                        first, PASSES, SHARED + "later/still/DeepRuns.java", FAILS),
                project("a shared test throws", false, "2 tests ran, 1 failed", first, THROWS),
                project("a shared test does not compile", false, "1 tests ran, 1 failed", first, NO_JAVA),
                project("no shared test", false, "no tests under"),
                project("a test of the project fails", false, "3 tests ran, 1 failed",
                        first, PASSES, TESTS + "AnotherTest.java", FAILS),
                project("a test of the project does not compile", false, "do not compile",
                        first, PASSES, TESTS + "AnotherTest.java", NO_JAVA));
    }

    private static Project project(String what, boolean lands, String sum, String... files) {
        return new Project(what, lands, sum, List.of(files));
    }

    private static Started start(Project project) throws IOException {
        Path root = Files.createTempDirectory("ci-run");
        Folders.write(root, "main/src/main/java/FrameBackEnd.java", "public final class FrameBackEnd {\n}\n");
        writeTest(root, TESTS + "OneTest.java", PASSES);
        for (int k = 0; k < project.files().size(); k += 2) {
            writeTest(root, project.files().get(k), project.files().get(k + 1));
        }
        String script = Files.readString(Path.of(".ci/run"));
        Folders.write(root, "main/.ci/run", script);
        ProcessBuilder builder = new ProcessBuilder("sh", root.resolve("main/.ci/run").toString());
        builder.redirectErrorStream(true);
        builder.redirectOutput(new File(root.toFile(), "output"));
        return new Started(project, root, builder.start());
    }

    private static void writeTest(Path root, String file, String body) throws IOException {
        String name = file.substring(file.lastIndexOf('/') + 1, file.lastIndexOf('.'));
        Folders.write(root, file, "public final class " + name + " {\n    public static void main(String[] args) {\n"
                + "        new FrameBackEnd();\n        " + body + "\n    }\n}\n");
    }

    private static void compare(Started one) throws IOException, InterruptedException {
        int code = one.process().waitFor();
        String output = Files.readString(one.root().resolve("output"));
        DUE.is(one.project().what() + ": it lands, by its exit code", code == 0, one.project().lands());
        DUE.is(one.project().what() + ": '" + one.project().sum() + "' stands in\n" + output,
                output.contains(one.project().sum()), true);
        Folders.remove(one.root());
    }
}
