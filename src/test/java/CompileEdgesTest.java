/** The answers of compile() on both sides of what they name, and which comes first where several hold. */
public final class CompileEdgesTest {
    private static final Due DUE = new Due("CompileEdgesTest");

    public static void main(String[] args) {
        emptiest();
        lastInstruction();
        calledFunctions();
        callsOfThemselves();
        longestCode();
        longBranchMakesItTooLong();
        everyOrder();
        mended();
        DUE.end();
    }

    private static void answer(int want, String... lines) {
        FrameBackEnd x = Programs.given(lines);
        DUE.is(String.join("; ", lines), x.compile(), want);
        DUE.is("length()", x.length() > 0, want == 0);
        DUE.is("start()", x.start(), want == 0);
    }

    private static void emptiest() {
        DUE.by("1 if there is no function, or one has no instructions");
        answer(1);
        answer(1, "FUNCTION");
        answer(1, "FUNCTION 1 2 3");
        answer(0, "FUNCTION", "GOTO 0");
        answer(1, "FUNCTION", "GOTO 0", "FUNCTION");
        answer(1, "FUNCTION", "FUNCTION", "GOTO 0");
        answer(1, "FUNCTION", "GOTO 0", "FUNCTION", "FUNCTION", "GOTO 0");
        answer(0, "FUNCTION", "GOTO 0", "FUNCTION", "GOTO 0", "FUNCTION", "GOTO 0", "FUNCTION", "GOTO 0",
                "FUNCTION", "GOTO 0", "FUNCTION", "GOTO 0");
        answer(1, "FUNCTION", "GOTO 0", "FUNCTION", "GOTO 0", "FUNCTION", "GOTO 0", "FUNCTION", "GOTO 0",
                "FUNCTION", "GOTO 0", "FUNCTION");
    }

    private static void lastInstruction() {
        DUE.by("or its last one is not GOTO or RETURN");
        for (int op = 0; op < 16; op++) {
            String line = switch (op) {
                case 8 -> "LOAD 0 2 0";
                case 9 -> "STORE 2 0 0";
                case 10 -> "GOTO 0";
                case 13 -> "CALL 2 0 0";
                default -> Programs.OPS.get(op) + " 0 0 0";
            };
            int want = op == 10 || op == 14 ? 0 : 1;
            answer(want, "FUNCTION 1 2 3", line, "FUNCTION 1", "GOTO 0", "FUNCTION 1", "GOTO 0");
            answer(want, "FUNCTION 1", "GOTO 0", "FUNCTION 1 2 3", "RETURN 0", line, "FUNCTION 1", "GOTO 0");
            answer(0, "FUNCTION 1 2 3", line, "GOTO 0", "FUNCTION 1", "GOTO 0", "FUNCTION 1", "GOTO 0");
        }
    }

    private static void calledFunctions() {
        DUE.by("3 if a function that is called is not there");
        int[] called = {Integer.MIN_VALUE, -6, -1, 1, 2, 3, 4, 5, 6, 7, 24, Integer.MAX_VALUE};
        for (int count = 2; count <= 6; count++) {
            for (int f : called) {
                String[] lines = Programs.lines("FUNCTION 1", "CALL " + f + " 0 0", "GOTO 0");
                for (int k = 1; k < count; k++) {
                    lines = Programs.join(lines, Programs.lines("FUNCTION 1", "GOTO 0"));
                }
                answer(f >= 1 && f < count ? 0 : 3, lines);
            }
        }
        answer(3, "FUNCTION 1", "GOTO 0", "CALL 1 0 0", "GOTO 0");
    }

    private static void callsOfThemselves() {
        DUE.by("4 if a function can come to call itself, in one or more steps");
        for (int first = 0; first < 6; first++) {
            for (int last = first; last < 6; last++) {
                answer(4, ring(first, last, true));
                answer(0, ring(first, last, false));
            }
        }
    }

    /** Each of six functions calls the next one; the last one of the ring also calls its first one. */
    private static String[] ring(int first, int last, boolean closed) {
        String[] lines = new String[0];
        for (int f = 0; f < 6; f++) {
            lines = Programs.join(lines, Programs.lines("FUNCTION 1"),
                    f < 5 ? Programs.lines("CALL " + (f + 1) + " 0 0") : new String[0],
                    closed && f == last ? Programs.lines("CALL " + first + " 0 0") : new String[0],
                    Programs.lines("RETURN 0"));
        }
        return lines;
    }

    /** Two functions of 166 bytes and one of the rest, each with the 3 of its GOTO; the last byte is a high one. */
    private static void longestCode() {
        DUE.by("6 if the code has more than 500 bytes");
        for (int size = 495; size <= 506; size++) {
            String[] lines = Programs.join(Programs.lines("FUNCTION 1 2"), Programs.fill(163), Programs.lines("GOTO 0"),
                    Programs.lines("FUNCTION 1 2"), Programs.fill(163), Programs.lines("GOTO 0"),
                    Programs.lines("FUNCTION 1 2"), Programs.fill(size - 335), Programs.lines("GOTO 0"));
            answer(size <= 500 ? 0 : 6, lines);
            FrameBackEnd x = Programs.given(lines);
            x.compile();
            DUE.is("length() of " + size, x.length(), size <= 500 ? size : 0);
            DUE.is("code(" + (size - 1) + ")", x.code(size - 1), size <= 500 ? 1 : -1);
            DUE.is("code(" + size + ")", x.code(size), -1);
        }
    }

    /** With a short branch the code would have 3 bytes less and fit. */
    private static void longBranchMakesItTooLong() {
        DUE.by("6 if the code has more than 500 bytes");
        int[] sizes = {499, 500, 501, 502, 503, 504};
        for (int size : sizes) {
            String[] between = Programs.fill(128);
            String[] lines = Programs.join(Programs.lines("FUNCTION 1 2", "ZERO 0 " + (between.length + 1)), between,
                    Programs.lines("GOTO 0", "FUNCTION 1 2"), Programs.fill(178), Programs.lines("GOTO 0"),
                    Programs.lines("FUNCTION 1 2"), Programs.fill(size - 138 - 181 - 3), Programs.lines("GOTO 0"));
            answer(size <= 500 ? 0 : 6, lines);
            FrameBackEnd x = Programs.given(lines);
            x.compile();
            DUE.is("longs() of " + size, x.longs(), size <= 500 ? 1 : 0);
            DUE.is("base(0)", x.base(0), size <= 500 ? 0 : -1);
            DUE.is("address(0, 0)", x.address(0, 0), size <= 500 ? 0 : -1);
        }
    }

    /** All choices of the six faults. */
    private static void everyOrder() {
        DUE.by("the answer is the first of these that holds");
        for (int faults = 0; faults < 64; faults++) {
            int want = faults == 0 ? 0 : 1 + Integer.numberOfTrailingZeros(faults);
            DUE.is("faults " + Integer.toBinaryString(faults), Programs.given(withFaults(faults)).compile(), want);
        }
    }

    private static boolean has(int faults, int answer) {
        return (faults >> (answer - 1) & 1) == 1;
    }

    /** Frames of 42 and 42 bytes, and 36 more, or 37 where they shall end above 120. */
    private static String[] withFaults(int faults) {
        int calls = has(faults, 6) ? 22 : 1;
        String[] lines = Programs.join(Programs.lines("FUNCTION 8 8 8 8 8 2"), Programs.times(calls, "CALL 1 5 5"),
                Programs.lines("RETURN 5", "FUNCTION 8 8 8 8 8 2"), Programs.times(calls, "CALL 2 5 5"),
                Programs.lines("RETURN 5", has(faults, 5) ? "FUNCTION 8 8 8 8 4 1" : "FUNCTION 8 8 8 8 3 1"));
        if (has(faults, 4)) {
            lines = Programs.join(lines, Programs.lines("CALL 1 5 5"));
        }
        if (has(faults, 3)) {
            lines = Programs.join(lines, Programs.lines("CALL 3 5 5"));
        }
        if (has(faults, 2)) {
            lines = Programs.join(lines, Programs.lines("GOTO 9"));
        }
        return Programs.join(lines, Programs.lines(has(faults, 1) ? "OUT 5" : "RETURN 5"));
    }

    /** What was missing can be given behind a compile() in vain. */
    private static void mended() {
        DUE.by("Otherwise there is no code and no run");
        FrameBackEnd x = new FrameBackEnd();
        DUE.is("compile() of nothing", x.compile(), 1);
        x.function();
        DUE.is("compile() of an empty function", x.compile(), 1);
        x.op(10, 1, 0, 0);
        DUE.is("compile() with a target that is not there", x.compile(), 2);
        x.variable(1);
        x.op(13, 1, 0, 0);
        DUE.is("compile() with CALL at the end", x.compile(), 1);
        x.op(14, 0, 0, 0);
        DUE.is("compile() without function 1", x.compile(), 3);
        x.function();
        DUE.is("compile() with an empty function 1", x.compile(), 1);
        x.op(10, 0, 0, 0);
        DUE.is("compile()", x.compile(), 0);
        DUE.is("length()", x.length(), 3 + 8 + 9 + 3);
    }
}
