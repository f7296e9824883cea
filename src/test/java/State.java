import java.util.ArrayList;
import java.util.List;

/**
 * What an object can be in the midst of: a program that was given, and calls that were made behind it. The latest
 * function has a BYTE 0, a WIDE 1 and an ARRAY 2 wherever it has variables.
 */
record State(String name, String[] program, List<Call> calls) {
    private static final String[] SMALL = {"FUNCTION 1 2 3", "SET 1 770", "OUT 1", "CALL 1 1 0", "RETURN 0",
        "FUNCTION 1 2 3", "OUT 0", "LOAD 0 2 0", "RETURN 1"};
    private static final String[] FAULTY = {"FUNCTION 1 2 3", "SET 0 3", "OUT 0", "STORE 2 0 0", "RETURN 0"};
    private static final String[] WRONG_TARGET = {"FUNCTION 1 2 3", "OUT 0", "GOTO 7"};

    FrameBackEnd given() {
        return Programs.given(program);
    }

    FrameBackEnd made() {
        FrameBackEnd x = given();
        for (Call call : calls) {
            call.on(x);
        }
        return x;
    }

    static State fresh() {
        return new State("new object", new String[0], List.of());
    }

    static State empty() {
        return new State("empty function", Programs.lines("FUNCTION"), List.of());
    }

    /** With a program and room for more of all, but no code. */
    static List<State> withoutCode() {
        return List.of(new State("not compiled", SMALL, List.of()),
                new State("wrong target", WRONG_TARGET, List.of(Call.compile())));
    }

    static State compiled() {
        return new State("compiled", SMALL, List.of(Call.compile()));
    }

    /** With a program and room for more of all, and a run. */
    static List<State> withRun() {
        return List.of(run("begun", SMALL, 0), run("in function 0", SMALL, 2), run("in function 1", SMALL, 4),
                run("before the end", SMALL, 6), run("ended", SMALL, 7), run("fault", FAULTY, 3));
    }

    static List<State> withCode() {
        List<State> all = new ArrayList<>(withRun());
        all.add(compiled());
        return all;
    }

    static List<State> withProgram() {
        List<State> all = new ArrayList<>(withCode());
        all.addAll(withoutCode());
        return all;
    }

    /** In the latest function, which has these variables; each function has so many instructions. */
    static State full(String name, String variables, int... counts) {
        int last = counts.length - 1;
        String[] lines = Programs.join(Programs.lines("FUNCTION 1 2", "OUT 1", "CALL " + last + " 0 0", "RETURN 0"),
                Programs.times(counts[0] - 3, "GOTO 0"));
        for (int f = 1; f < last; f++) {
            lines = Programs.join(lines, Programs.lines("FUNCTION 1"), Programs.times(counts[f], "GOTO 0"));
        }
        lines = Programs.join(lines, Programs.lines("FUNCTION " + variables),
                Programs.times(counts[last] - 1, "OUT 1"), Programs.lines("RETURN 1"));
        return run(name, lines, 3);
    }

    private static State run(String name, String[] program, int n) {
        List<Call> calls = new ArrayList<>(List.of(Call.compile(), Call.start()));
        if (n > 0) {
            calls.add(Call.run(n));
        }
        return new State(name, program, calls);
    }
}
