import java.util.ArrayList;
import java.util.Arrays;
import java.util.List;

/**
 * Programs as text, for the tests. "FUNCTION 1 2" begins a function with variables of these sizes; a line such as
 * "ADD 0 1 2" gives it an instruction; arguments that are left away are 0.
 */
final class Programs {
    static final List<String> OPS = List.of("SET", "MOVE", "ADD", "SUB", "AND", "OR", "XOR", "DOUBLE",
            "LOAD", "STORE", "GOTO", "ZERO", "BELOW", "CALL", "RETURN", "OUT");

    private Programs() {
    }

    /** Gives the lines to an object; a line that it refuses is a fault of the test itself. */
    static FrameBackEnd give(FrameBackEnd x, String... lines) {
        for (String line : lines) {
            String[] words = line.trim().split(" +");
            if (words[0].equals("FUNCTION")) {
                must(line, x.function());
                for (int k = 1; k < words.length; k++) {
                    must(line, x.variable(Integer.parseInt(words[k])));
                }
            } else {
                must(line, op(x, line));
            }
        }
        return x;
    }

    static FrameBackEnd given(String... lines) {
        return give(new FrameBackEnd(), lines);
    }

    static FrameBackEnd compiled(String... lines) {
        FrameBackEnd x = given(lines);
        int answer = x.compile();
        if (answer != 0) {
            throw new IllegalStateException("compile() answered " + answer);
        }
        return x;
    }

    static FrameBackEnd started(String... lines) {
        FrameBackEnd x = compiled(lines);
        if (!x.start()) {
            throw new IllegalStateException("start() answered false");
        }
        return x;
    }

    static int op(FrameBackEnd x, String line) {
        String[] words = line.trim().split(" +");
        int[] arguments = new int[3];
        for (int k = 1; k < words.length; k++) {
            arguments[k - 1] = Integer.parseInt(words[k]);
        }
        return x.op(OPS.indexOf(words[0]), arguments[0], arguments[1], arguments[2]);
    }

    static String[] times(int n, String line) {
        String[] lines = new String[n];
        Arrays.fill(lines, line);
        return lines;
    }

    static String[] join(String[]... parts) {
        ArrayList<String> all = new ArrayList<>();
        for (String[] part : parts) {
            all.addAll(List.of(part));
        }
        return all.toArray(new String[0]);
    }

    /**
     * Instructions of so many bytes (16 at least), for BYTE 0 at 0 and WIDE 1 at 1: an ADD of the WIDE has 13, its
     * DOUBLE 4, an OUT of the BYTE 3, and 1 where A holds it. An ADD is the first, so it is of no meaning what A holds
     * before them.
     */
    static String[] fill(int bytes) {
        ArrayList<String> lines = new ArrayList<>();
        int adds = bytes / 13;
        int left = bytes % 13;
        if (left == 1 || left == 2) {
            adds--;
            left += 13;
        }
        for (int k = 0; k < adds; k++) {
            lines.add("ADD 1 1 1");
        }
        if (left > 0) {
            lines.add("OUT 0");
            left -= 3;
        }
        for (; left >= 4; left -= 4) {
            lines.add("DOUBLE 1");
        }
        for (; left > 0; left--) {
            lines.add("OUT 0");
        }
        return lines.toArray(new String[0]);
    }

    static String[] lines(String... lines) {
        return lines;
    }

    private static void must(String line, int answer) {
        if (answer < 0) {
            throw new IllegalStateException(line + " was refused");
        }
    }
}
