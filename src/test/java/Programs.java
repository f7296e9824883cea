import java.util.List;

/**
 * Programs as text, for the tests. "FUNCTION 1 2" begins a function with variables of these sizes; a line such as
 * "ADD 0 1 2" gives it an instruction; arguments that are left away are 0.
 */
final class Programs {
    static final List<String> OPS = List.of("SET", "MOVE", "ADD", "SUB", "AND", "OR", "XOR", "DOUBLE",
            "LOAD", "STORE", "GOTO", "ZERO", "BELOW", "CALL", "RETURN", "OUT");

    private Programs() {
    }

    /** Gives the lines to an object; a line that it refuses is a fault of the test itself. */
    static FrameBackEnd give(FrameBackEnd x, String... lines) {
        for (String line : lines) {
            String[] words = line.trim().split(" +");
            if (words[0].equals("FUNCTION")) {
                must(line, x.function());
                for (int k = 1; k < words.length; k++) {
                    must(line, x.variable(Integer.parseInt(words[k])));
                }
            } else {
                must(line, op(x, line));
            }
        }
        return x;
    }

    static FrameBackEnd given(String... lines) {
        return give(new FrameBackEnd(), lines);
    }

    static FrameBackEnd compiled(String... lines) {
        FrameBackEnd x = given(lines);
        int answer = x.compile();
        if (answer != 0) {
            throw new IllegalStateException("compile() answered " + answer);
        }
        return x;
    }

    static FrameBackEnd started(String... lines) {
        FrameBackEnd x = compiled(lines);
        if (!x.start()) {
            throw new IllegalStateException("start() answered false");
        }
        return x;
    }

    static int op(FrameBackEnd x, String line) {
        String[] words = line.trim().split(" +");
        int[] arguments = new int[3];
        for (int k = 1; k < words.length; k++) {
            arguments[k - 1] = Integer.parseInt(words[k]);
        }
        return x.op(OPS.indexOf(words[0]), arguments[0], arguments[1], arguments[2]);
    }

    static String[] times(int n, String line) {
        String[] lines = new String[n];
        java.util.Arrays.fill(lines, line);
        return lines;
    }

    static String[] join(String[]... parts) {
        java.util.ArrayList<String> all = new java.util.ArrayList<>();
        for (String[] part : parts) {
            all.addAll(List.of(part));
        }
        return all.toArray(new String[0]);
    }

    static String[] lines(String... lines) {
        return lines;
    }

    private static void must(String line, int answer) {
        if (answer < 0) {
            throw new IllegalStateException(line + " was refused");
        }
    }
}
