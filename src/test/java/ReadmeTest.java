import java.io.IOException;
import java.lang.reflect.InvocationTargetException;
import java.lang.reflect.Method;
import java.lang.reflect.Modifier;
import java.net.URL;
import java.net.URLClassLoader;
import java.nio.file.Files;
import java.nio.file.Path;
import java.util.ArrayList;
import java.util.List;
import java.util.Set;
import java.util.TreeSet;
import java.util.regex.Matcher;
import java.util.regex.Pattern;
import javax.tools.JavaCompiler;
import javax.tools.ToolProvider;

/**
 * README.md: every call that it shows compiles and answers what README.md says behind it, and the model, which was
 * written from the document, answers the same. The commands that it shows work, and the names that it tells are there.
 */
public final class ReadmeTest {
    private static final Due DUE = new Due("ReadmeTest");
    private static final Path README = Path.of("README.md");

    private static final Pattern MADE = Pattern.compile("FrameBackEnd (\\w+) = new FrameBackEnd\\(\\);");
    private static final Pattern CALL =
            Pattern.compile("(\\w+\\.(\\w+)\\([-\\d, ]*\\)); +// (-?\\d+|true|false)(:.*)?");
    private static final Pattern SPAN = Pattern.compile("`([^`]+)`");
    private static final Pattern SHOWN = Pattern.compile("(\\w+)\\(([\\w, ]*)\\)");

    /** A block of code in README.md: its language, the line at which it begins, and its lines. */
    private record Block(String language, int at, List<String> lines) {
    }

    public static void main(String[] args) throws IOException, ReflectiveOperationException, InterruptedException {
        List<String> lines = Files.readAllLines(README);
        List<Block> blocks = blocks(lines);
        List<Block> programs = blocks.stream().filter(block -> block.language().equals("java")).toList();
        shownAnswers("FrameBackEnd", programs);
        shownAnswers("ModelFace", programs);
        wholeFaceIsShown(programs);
        List<String> spans = spans(lines);
        spansCompile(spans);
        namesAreThere(spans);
        instructions(lines);
        commands(blocks, programs.get(0));
        DUE.end();
    }

    private static List<Block> blocks(List<String> lines) {
        List<Block> blocks = new ArrayList<>();
        Block open = null;
        for (int k = 0; k < lines.size(); k++) {
            String line = lines.get(k);
            if (!line.startsWith("```")) {
                if (open != null) {
                    open.lines().add(line);
                }
            } else if (open == null) {
                open = new Block(line.substring(3), k + 1, new ArrayList<>());
            } else {
                blocks.add(open);
                open = null;
            }
        }
        DUE.is("README.md leaves a block open", open != null, false);
        return blocks;
    }

    /** Lines that are neither a new object nor a call with its answer are wrong: nothing is shown unproved. */
    private static String source(String type, List<Block> programs) {
        StringBuilder source = new StringBuilder("public final class ReadmeCalls {\n"
                + "    public static java.util.List<Object[]> answers() {\n"
                + "        java.util.List<Object[]> all = new java.util.ArrayList<>();\n");
        for (Block block : programs) {
            source.append("        {\n");
            for (int k = 0; k < block.lines().size(); k++) {
                source.append(statement(type, block.lines().get(k).trim(), block.at() + 1 + k));
            }
            source.append("        }\n");
        }
        return source.append("        return all;\n    }\n}\n").toString();
    }

    private static String statement(String type, String line, int number) {
        Matcher made = MADE.matcher(line);
        if (made.matches()) {
            return type + " " + made.group(1) + " = new " + type + "();\n";
        }
        Matcher call = CALL.matcher(line);
        DUE.is("README.md, line " + number + " is a call with its answer", call.matches(), true);
        return call.matches() ? "all.add(new Object[] {\"README.md, line " + number + ": " + call.group(1) + "\", "
                + call.group(1) + ", " + call.group(3) + "});\n" : "";
    }

    private static void shownAnswers(String type, List<Block> programs)
            throws IOException, ReflectiveOperationException {
        List<?> answers = (List<?>) made("ReadmeCalls", source(type, programs), "answers");
        for (Object one : answers) {
            Object[] row = (Object[]) one;
            DUE.is(type + ", " + row[0], "" + row[1], "" + row[2]);
        }
        DUE.is("so many calls are shown", answers.size() > 100, true);
    }

    /** What the method of a class with this source answers; null if there is none or it does not compile. */
    private static Object made(String name, String source, String method)
            throws IOException, ReflectiveOperationException {
        Path root = Files.createTempDirectory("readme");
        Path file = root.resolve(name + ".java");
        Files.writeString(file, source);
        JavaCompiler compiler = ToolProvider.getSystemJavaCompiler();
        int code = compiler.run(null, null, null, "-d", root.toString(), "-cp",
                System.getProperty("java.class.path"), file.toString());
        DUE.is("exit code of javac for\n" + source, code, 0);
        Object answer = code == 0 ? called(root, name, method) : List.of();
        Folders.remove(root);
        return answer;
    }

    private static Object called(Path root, String name, String method)
            throws IOException, ReflectiveOperationException {
        try (URLClassLoader loader = new URLClassLoader(new URL[] {root.toUri().toURL()})) {
            return loader.loadClass(name).getMethod(method).invoke(null);
        } catch (InvocationTargetException e) {
            DUE.is("a call that README.md shows threw " + e.getCause(), true, false);
            return List.of();
        }
    }

    private static Set<String> face() {
        Set<String> names = new TreeSet<>();
        for (Method method : FrameBackEnd.class.getDeclaredMethods()) {
            if (Modifier.isPublic(method.getModifiers())) {
                names.add(method.getName());
            }
        }
        return names;
    }

    private static void wholeFaceIsShown(List<Block> programs) {
        Set<String> shown = new TreeSet<>();
        for (Block block : programs) {
            for (String line : block.lines()) {
                Matcher call = CALL.matcher(line.trim());
                if (call.matches()) {
                    shown.add(call.group(2));
                }
            }
        }
        DUE.is("the calls that are shown with an answer", shown.toString(), face().toString());
    }

    private static List<String> spans(List<String> lines) {
        List<String> spans = new ArrayList<>();
        boolean inBlock = false;
        for (String line : lines) {
            if (line.startsWith("```")) {
                inBlock = !inBlock;
            }
            Matcher span = SPAN.matcher(line);
            while (!inBlock && span.find()) {
                spans.add(span.group(1));
            }
        }
        return spans;
    }

    /** A call with names in place of numbers, such as code(i), must be one of the face for ints of these names. */
    private static void spansCompile(List<String> spans) throws IOException, ReflectiveOperationException {
        Set<String> shown = new TreeSet<>();
        StringBuilder source = new StringBuilder("public final class ReadmeSpans {\n"
                + "    public static Boolean all() {\n        return true;\n    }\n");
        for (String span : spans) {
            Matcher call = SHOWN.matcher(span);
            if (call.matches()) {
                shown.add(call.group(1));
                String parameters = call.group(2).isEmpty() ? "" : ", int " + call.group(2).replace(", ", ", int ");
                source.append("    static void shown" + source.length() + "(FrameBackEnd x" + parameters + ") {\n"
                        + "        x." + span + ";\n    }\n");
            }
        }
        DUE.is("ReadmeSpans.all()", "" + made("ReadmeSpans", source.append("}\n").toString(), "all"), "true");
        DUE.is("the calls that are told", shown.toString(), face().toString());
    }

    private static void namesAreThere(List<String> spans) {
        for (String span : spans) {
            if (span.endsWith("Test") && !span.startsWith("*")) {
                DUE.is(span + ", which README.md names, is there",
                        Files.exists(Path.of("src/test/java/" + span + ".java")), true);
            }
            if (span.startsWith("src/") || span.startsWith("../shared/")) {
                DUE.is(span + ", which README.md names, is there", Files.exists(Path.of(span)), true);
            }
        }
    }

    private static void instructions(List<String> lines) {
        Set<Integer> told = new TreeSet<>();
        Matcher cells = Pattern.compile("(\\d+) \\| ([A-Z]+)[ a-z]* \\|").matcher(String.join("\n", lines));
        while (cells.find()) {
            int op = Integer.parseInt(cells.group(1));
            told.add(op);
            DUE.is("the instruction " + op, cells.group(2), op < 16 ? Programs.OPS.get(op) : "none");
        }
        DUE.is("so many instructions are told", told.size(), 16);
    }

    /** Those that use the class and that run one test; .ci/run is what runs this test. */
    private static void commands(List<Block> blocks, Block program) throws IOException, InterruptedException {
        boolean tellsRun = false;
        for (Block block : blocks) {
            String text = String.join("\n", block.lines());
            if (block.language().equals("sh") && text.equals(".ci/run")) {
                tellsRun = true;
            } else if (block.language().equals("sh")) {
                DUE.is("exit code of\n" + text, exitCode(text, program), 0);
            }
        }
        DUE.is("README.md says how to run all tests", tellsRun && Files.isExecutable(Path.of(".ci/run")), true);
    }

    /** In a copy of the project beside which Yours.java lies, so that nothing is left in the project itself. */
    private static int exitCode(String command, Block program) throws IOException, InterruptedException {
        Path root = Files.createTempDirectory("readme");
        Folders.copy(root, "src");
        Folders.write(root, "Yours.java", "public final class Yours {\n"
                + "    public static void main(String[] args) {\n" + String.join("\n", program.lines())
                + "\n    }\n}\n");
        Process process = new ProcessBuilder("sh", "-e", "-c", command).directory(root.toFile())
                .redirectErrorStream(true).redirectOutput(ProcessBuilder.Redirect.DISCARD).start();
        int code = process.waitFor();
        Folders.remove(root);
        return code;
    }
}
