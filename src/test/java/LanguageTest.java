import java.io.IOException;
import java.lang.reflect.Field;
import java.lang.reflect.Method;
import java.lang.reflect.Modifier;
import java.nio.file.Files;
import java.nio.file.Path;
import java.util.ArrayList;
import java.util.HashMap;
import java.util.List;
import java.util.Map;
import java.util.Set;
import java.util.TreeSet;
import java.util.regex.Matcher;
import java.util.regex.Pattern;

/**
 * The rules of LANGUAGE.md that can be seen in the file or in the class that is made of it. Where the class needs less
 * than a rule leaves, the test asks for that: no object is made behind the constructor, and there is no recursion.
 */
public final class LanguageTest {
    private static final Due DUE = new Due("LanguageTest");
    private static final Path FILE = Path.of("src/main/java/FrameBackEnd.java");
    private static final Pattern METHOD =
            Pattern.compile("\\n +(?:public |private )?(?:static )?(?:int|boolean|void) (\\w+)\\([^)]*\\) \\{\\n");
    private static final Pattern CALLED = Pattern.compile("\\b(\\w+)\\(");
    private static final int MOST_LINES = 62;
    private static final int MOST_DEEP = 8;

    public static void main(String[] args) throws IOException {
        String text = Files.readString(FILE);
        String code = text.replaceAll("(?s)/\\*.*?\\*/|//[^\\n]*", "");
        file(text, code);
        words(code);
        classes();
        objects(code);
        Map<String, String> bodies = bodies(code);
        methods(bodies);
        depth(bodies);
        DUE.end();
    }

    private static void file(String text, String code) {
        DUE.by("one file .. without a package line .. one public class");
        DUE.is("a package line", code.contains("package "), false);
        DUE.is("public classes", code.split("public final class ").length - 1, 1);
        DUE.is("characters beyond 127", text.chars().anyMatch(one -> one > 127), false);
        List<String> imports = new ArrayList<>();
        Matcher line = Pattern.compile("import ([^;]+);").matcher(code);
        while (line.find()) {
            imports.add(line.group(1));
        }
        DUE.is("imports", imports.toString(), "[java.util.Arrays]");
    }

    /** Rules 2, 3, 4, 6, 8 and 13: none of these is needed. */
    private static void words(String code) {
        DUE.by("The library: only what stands here.");
        String[] signs = {"->", "::", "\"", "@"};
        for (String sign : signs) {
            DUE.is(sign + " is used", code.contains(sign), false);
        }
        String[] unused = {"try", "catch", "throw", "finally", "synchronized", "assert", "instanceof",
            "double", "float", "Object", "String", "System", "Thread", "Random", "protected", "super",
            "interface", "extends", "null"};
        for (String word : unused) {
            DUE.is(word + " is used", Pattern.compile("\\b" + word + "\\b").matcher(code).find(), false);
        }
        Set<String> used = new TreeSet<>();
        Matcher library = Pattern.compile("\\b(Arrays|Math)\\.(\\w+)").matcher(code);
        while (library.find()) {
            used.add(library.group());
        }
        DUE.is("what of the library is used", used.toString(), "[Arrays.fill, Math.max]");
    }

    private static List<Class<?>> allClasses() {
        List<Class<?>> all = new ArrayList<>(List.of(FrameBackEnd.class.getDeclaredClasses()));
        all.add(FrameBackEnd.class);
        return all;
    }

    private static void classes() {
        DUE.by("the file has at most some twelve classes, and a class some twenty fields beside its constants");
        DUE.is("at most twelve classes", allClasses().size() <= 12, true);
        for (Class<?> one : allClasses()) {
            int fields = 0;
            for (Field field : one.getDeclaredFields()) {
                boolean isStatic = Modifier.isStatic(field.getModifiers());
                fields += isStatic ? 0 : 1;
                DUE.is(field + " is static and not final",
                        isStatic && !Modifier.isFinal(field.getModifiers()), false);
            }
            DUE.is(one + " has at most twenty fields", fields <= 20, true);
            boolean inside = one != FrameBackEnd.class;
            DUE.is(one + " is static", Modifier.isStatic(one.getModifiers()), inside);
            for (Method method : one.getDeclaredMethods()) {
                DUE.is(method + " has at most seven parameters", method.getParameterCount() <= 7, true);
            }
        }
    }

    /** Each new stands where a field of an object gets its first value, or in the constructor of the face. */
    private static void objects(String code) {
        DUE.by("make rows in constructors and use them again");
        for (String line : code.split("\\n")) {
            boolean makes = Pattern.compile("\\bnew ").matcher(line).find();
            boolean inField = line.matches(" {8}private final .* = new .*");
            boolean inConstructor = line.matches(" {8}(program|frames|assembler|processor) = new .*");
            DUE.is("'" + line.trim() + "' makes an object in a later call",
                    makes && !inField && !inConstructor, false);
        }
    }

    /** The text of each method by its name; methods of the same name are taken together. */
    private static Map<String, String> bodies(String code) {
        Map<String, String> bodies = new HashMap<>();
        Matcher method = METHOD.matcher(code);
        int from = 0;
        while (method.find(from)) {
            int end = endOf(code, method.end());
            bodies.merge(method.group(1), code.substring(method.end(), end), String::concat);
            from = end;
        }
        return bodies;
    }

    private static int endOf(String code, int begin) {
        int open = 1;
        int at = begin;
        while (open > 0) {
            open += code.charAt(at) == '{' ? 1 : code.charAt(at) == '}' ? -1 : 0;
            at++;
        }
        return at;
    }

    private static void methods(Map<String, String> bodies) {
        DUE.by("Methods stay short (some sixty lines)");
        for (String name : bodies.keySet()) {
            DUE.is(name + " is short", bodies.get(name).split("\\n").length <= MOST_LINES, true);
        }
        Set<String> missing = new TreeSet<>();
        for (Class<?> one : allClasses()) {
            for (Method method : one.getDeclaredMethods()) {
                if (!bodies.containsKey(method.getName()) && !method.isSynthetic()) {
                    missing.add(method.getName());
                }
            }
        }
        DUE.is("methods that this test does not see", missing.toString(), "[]");
    }

    private static void depth(Map<String, String> bodies) {
        DUE.by("calls that are no recursion go at most eight deep");
        for (String name : bodies.keySet()) {
            int deep = depthOf(name, bodies, 0);
            DUE.is(name + " goes " + deep + " deep, which is more than eight", deep > MOST_DEEP, false);
        }
    }

    /** How many calls stand open at most, this one included; far too many if a method comes to call itself. */
    private static int depthOf(String name, Map<String, String> bodies, int open) {
        int deepest = 0;
        Matcher called = CALLED.matcher(bodies.get(name));
        while (called.find() && open <= MOST_DEEP) {
            if (bodies.containsKey(called.group(1))) {
                deepest = Math.max(deepest, depthOf(called.group(1), bodies, open + 1));
            }
        }
        return 1 + deepest;
    }
}
