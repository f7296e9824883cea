/** Promise 5: compile, with the order of its answers. */
public final class CompileTest {
    private static final Due DUE = new Due("CompileTest");

    public static void main(String[] args) {
        unfinishedFunctions();
        targets();
        callees();
        recursion();
        frames();
        tooLong();
        order();
        codeAndRunGo();
        DUE.end();
    }

    private static void answer(int want, String... lines) {
        DUE.is(String.join("; ", lines), Programs.given(lines).compile(), want);
    }

    private static void unfinishedFunctions() {
        answer(1);
        answer(1, "FUNCTION");
        answer(1, "FUNCTION 1");
        answer(0, "FUNCTION 1", "RETURN 0");
        answer(0, "FUNCTION", "GOTO 0");
        answer(1, "FUNCTION 1", "RETURN 0", "FUNCTION 1");
        answer(1, "FUNCTION 1", "FUNCTION 1", "RETURN 0");
        String[] others = {"SET 0 1", "MOVE 0 1", "ADD 0 0 0", "SUB 0 0 0", "AND 0 0 0", "OR 0 0 0", "XOR 0 0 0",
            "DOUBLE 0", "LOAD 0 2 0", "STORE 2 0 0", "ZERO 0 0", "BELOW 0 1 0", "CALL 1 0 0", "OUT 0"};
        for (String other : others) {
            answer(1, "FUNCTION 1 2 3", "RETURN 0", other, "FUNCTION 1", "RETURN 0");
            answer(0, "FUNCTION 1 2 3", other, "RETURN 0", "FUNCTION 1", "RETURN 0");
        }
    }

    private static void targets() {
        int[] wrong = {2, 3, 24, -1, Integer.MIN_VALUE, Integer.MAX_VALUE};
        for (int l : wrong) {
            answer(2, "FUNCTION 1", "GOTO " + l, "RETURN 0");
            answer(2, "FUNCTION 1", "ZERO 0 " + l, "RETURN 0");
            answer(2, "FUNCTION 1", "BELOW 0 0 " + l, "RETURN 0");
            answer(2, "FUNCTION 1", "RETURN 0", "FUNCTION 1", "RETURN 0", "GOTO " + l);
        }
        answer(2, "FUNCTION 1", "GOTO 1", "FUNCTION 1", "RETURN 0", "RETURN 0");
        answer(2, "FUNCTION 1", "RETURN 0", "RETURN 0", "FUNCTION 1", "GOTO 1");
        answer(0, "FUNCTION 1", "GOTO 1", "GOTO 0", "RETURN 0");
        answer(0, "FUNCTION 1", "ZERO 0 1", "BELOW 0 0 0", "RETURN 0");
    }

    private static void callees() {
        int[] wrong = {2, 5, 6, -1, Integer.MIN_VALUE, Integer.MAX_VALUE};
        for (int f : wrong) {
            answer(3, "FUNCTION 1", "CALL " + f + " 0 0", "RETURN 0", "FUNCTION 1", "RETURN 0");
            answer(3, "FUNCTION 1", "RETURN 0", "FUNCTION 1", "CALL " + f + " 0 0", "RETURN 0");
        }
        answer(0, "FUNCTION 1", "CALL 1 0 0", "RETURN 0", "FUNCTION 1", "RETURN 0");
    }

    private static void recursion() {
        answer(4, "FUNCTION 1", "CALL 0 0 0", "RETURN 0");
        answer(4, "FUNCTION 1", "RETURN 0", "CALL 0 0 0", "RETURN 0");
        answer(4, "FUNCTION 1", "RETURN 0", "FUNCTION 1", "CALL 1 0 0", "RETURN 0");
        answer(4, "FUNCTION 1", "CALL 1 0 0", "RETURN 0", "FUNCTION 1", "CALL 0 0 0", "RETURN 0");
        answer(4, "FUNCTION 1", "RETURN 0", "FUNCTION 1", "CALL 2 0 0", "RETURN 0",
                "FUNCTION 1", "CALL 3 0 0", "RETURN 0", "FUNCTION 1", "CALL 1 0 0", "RETURN 0");
        answer(4, ring(new int[] {5, 0, 1, 2, 3, 4}));
        answer(4, ring(new int[] {1, 2, 3, 4, 5, 0}));
        answer(4, ring(new int[] {3, 5, 4, 1, 0, 2}));
        answer(0, ring(new int[] {1, 2, 3, 4, 5, -1}));
        answer(0, ring(new int[] {-1, 0, 1, 2, 3, 4}));
        answer(0, "FUNCTION 1", "CALL 1 0 0", "CALL 2 0 0", "CALL 2 0 0", "RETURN 0",
                "FUNCTION 1", "CALL 2 0 0", "RETURN 0", "FUNCTION 1", "RETURN 0");
        answer(0, "FUNCTION 1", "RETURN 0", "FUNCTION 1", "CALL 0 0 0", "RETURN 0");
    }

    private static String[] ring(int[] callees) {
        String[] lines = new String[0];
        for (int callee : callees) {
            lines = Programs.join(lines, callee < 0
                    ? Programs.lines("FUNCTION 1", "RETURN 0")
                    : Programs.lines("FUNCTION 1", "CALL " + callee + " 0 0", "RETURN 0"));
        }
        return lines;
    }

    private static void frames() {
        answer(0, "FUNCTION 8 8 8 8 8 1", "CALL 1 5 5", "RETURN 5", "FUNCTION 8 8 8 8 8 1", "CALL 2 5 5", "RETURN 5",
                "FUNCTION 8 8 8 8 5 1", "RETURN 5");
        answer(5, "FUNCTION 8 8 8 8 8 1", "CALL 1 5 5", "RETURN 5", "FUNCTION 8 8 8 8 8 1", "CALL 2 5 5", "RETURN 5",
                "FUNCTION 8 8 8 8 6 1", "RETURN 5");
        answer(5, "FUNCTION 1", "RETURN 0",
                "FUNCTION 8 8 8 8 5 1", "RETURN 5",
                "FUNCTION 8 8 8 8 8 2", "CALL 1 5 5", "RETURN 5",
                "FUNCTION 8 8 8 8 8 1", "CALL 2 5 5", "RETURN 5");
        answer(0, "FUNCTION 8 8 8 8 8 2", "CALL 1 5 5", "CALL 2 5 5", "RETURN 5", "FUNCTION 8 8 8 8 8 2", "RETURN 5",
                "FUNCTION 8 8 8 8 8 2", "RETURN 5");
    }

    private static void tooLong() {
        FrameBackEnd x = Programs.given(ofBytes(500));
        DUE.is("compile() of 500 bytes", x.compile(), 0);
        DUE.is("length()", x.length(), 500);
        DUE.is("code(499)", x.code(499), 160);
        DUE.is("code(500)", x.code(500), -1);
        FrameBackEnd y = Programs.given(ofBytes(501));
        DUE.is("compile() of 501 bytes", y.compile(), 6);
        DUE.is("length()", y.length(), 0);
        DUE.is("code(0)", y.code(0), -1);
        DUE.is("longs()", y.longs(), 0);
        DUE.is("start()", y.start(), false);
        instructionBehindTheLimit();
        longest();
    }

    /** The OUT begins at 500, where no code can be. */
    private static void instructionBehindTheLimit() {
        answer(6, Programs.join(half(), half(),
                Programs.lines("FUNCTION 2 1", "ADD 0 0 0", "ADD 0 0 0", "DOUBLE 1", "OUT 1", "RETURN 1")));
    }

    /** A function of 236 bytes: an ADD of a WIDE below 16 has 13, its DOUBLE 4, its RETURN 11. */
    private static String[] half() {
        return Programs.join(Programs.lines("FUNCTION 2"), Programs.times(17, "ADD 0 0 0"),
                Programs.lines("DOUBLE 0", "RETURN 0"));
    }

    /**
     * In the third function: 10 for the DOUBLEs, 9 for the RETURN, whose first LDA is left out, 2 for the LDA of the
     * first OUT, and 1 an OUT.
     */
    private static String[] ofBytes(int bytes) {
        return Programs.join(half(), half(), Programs.lines("FUNCTION 1"), Programs.times(5, "DOUBLE 0"),
                Programs.times(bytes - 2 * 236 - 10 - 9 - 2, "OUT 0"), Programs.lines("RETURN 0"));
    }

    /** The dearest instructions, far from address 0: nothing but 6 may come of it. */
    private static void longest() {
        String[] lines = Programs.lines("FUNCTION 8 8 8 2");
        for (int f = 0; f < 2; f++) {
            lines = Programs.join(lines, Programs.times(23, "CALL 3 3 3"),
                    Programs.lines("RETURN 3", "FUNCTION 8 8 8 2"));
        }
        lines = Programs.join(lines, Programs.times(10, "CALL 3 3 3"), Programs.lines("RETURN 3",
                "FUNCTION 2", "RETURN 0"));
        answer(6, lines);
    }

    private static void order() {
        answer(1, "FUNCTION 1", "GOTO 9", "OUT 0");
        answer(1, "FUNCTION 1", "GOTO 9", "FUNCTION 1");
        answer(2, "FUNCTION 1", "CALL 7 0 0", "RETURN 0", "FUNCTION 1", "GOTO 9");
        answer(2, "FUNCTION 1", "CALL 0 0 0", "RETURN 0", "FUNCTION 1", "GOTO 9");
        answer(3, "FUNCTION 1", "CALL 0 0 0", "CALL 7 0 0", "RETURN 0");
        answer(4, "FUNCTION 8 8 8 8 8 8", "GOTO 0", "FUNCTION 8 8 8 8 8 1", "CALL 1 5 5", "CALL 2 5 5", "RETURN 5",
                "FUNCTION 8 8 8 8 8 1", "CALL 3 5 5", "RETURN 5", "FUNCTION 8 8 8 8 8 1", "RETURN 5");
        String[] big = Programs.join(Programs.lines("FUNCTION 8 8 8 8 8 2"), Programs.times(23, "CALL 1 5 5"),
                Programs.lines("RETURN 5", "FUNCTION 8 8 8 8 8 2"), Programs.times(20, "CALL 2 5 5"),
                Programs.lines("RETURN 5"));
        answer(5, Programs.join(big, Programs.lines("FUNCTION 8 8 8 8 8 2", "RETURN 5")));
        answer(6, Programs.join(big, Programs.lines("FUNCTION 2", "RETURN 0")));
    }

    private static void codeAndRunGo() {
        FrameBackEnd x = Programs.started("FUNCTION 1", "OUT 0", "RETURN 0");
        x.run(1);
        DUE.is("compile() again", x.compile(), 0);
        DUE.is("length()", x.length(), 12);
        DUE.is("state()", x.state(), -1);
        DUE.is("spent()", x.spent(), 0);
        DUE.is("output(-1)", x.output(-1), 0);
        DUE.is("run(1)", x.run(1), -1);
        x.start();
        DUE.is("op", x.op(10, 9, 0, 0), 2);
        DUE.is("compile()", x.compile(), 2);
        DUE.is("length()", x.length(), 0);
        DUE.is("longs()", x.longs(), 0);
        DUE.is("base(0)", x.base(0), -1);
        DUE.is("address(0, 0)", x.address(0, 0), -1);
        DUE.is("state()", x.state(), -1);
        DUE.is("start()", x.start(), false);
    }
}
