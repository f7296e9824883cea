/** Promise 9: base. */
public final class BaseTest {
    private static final Due DUE = new Due("BaseTest");

    public static void main(String[] args) {
        bases("0", "FUNCTION 1", "RETURN 0");
        bases("0 5", "FUNCTION 1 4", "CALL 1 0 0", "RETURN 0", "FUNCTION 1", "RETURN 0");
        bases("0 0", "FUNCTION 1 4", "RETURN 0", "FUNCTION 1", "RETURN 0");
        bases("0 3 3", "FUNCTION 1 2", "CALL 1 0 0", "CALL 2 0 0", "RETURN 0", "FUNCTION 1 8", "RETURN 0",
                "FUNCTION 1", "RETURN 0");
        bases("0 1 9", "FUNCTION 1", "CALL 2 0 0", "CALL 1 0 0", "RETURN 0", "FUNCTION 1 7", "CALL 2 0 0", "RETURN 0",
                "FUNCTION 1", "RETURN 0");
        bases("0 20 12 4", "FUNCTION 1 3", "CALL 3 0 0", "CALL 1 0 0", "RETURN 0", "FUNCTION 1", "RETURN 0",
                "FUNCTION 1 7", "CALL 1 0 0", "RETURN 0", "FUNCTION 1 7", "CALL 2 0 0", "RETURN 0");
        bases("0 9 0", "FUNCTION 1", "CALL 1 0 0", "RETURN 0", "FUNCTION 1", "RETURN 0",
                "FUNCTION 1 8", "CALL 1 0 0", "RETURN 0");
        bases("0 0", "FUNCTION 1", "RETURN 0", "FUNCTION 1 8", "CALL 0 0 0", "RETURN 0");
        bases("0 1 0", "FUNCTION 1", "CALL 1 0 0", "RETURN 0", "FUNCTION 1", "RETURN 0",
                "FUNCTION 1 8", "CALL 0 0 0", "RETURN 0");
        bases("0 1", "FUNCTION 1", "RETURN 0", "CALL 1 0 0", "RETURN 0", "FUNCTION 1", "RETURN 0");
        bases("0 0", "FUNCTION", "GOTO 0", "FUNCTION 1 1", "GOTO 0");
        bases("0 5 4 3 2 1", "FUNCTION 1", "CALL 5 0 0", "RETURN 0", "FUNCTION 1", "RETURN 0",
                "FUNCTION 1", "CALL 1 0 0", "RETURN 0", "FUNCTION 1", "CALL 2 0 0", "RETURN 0",
                "FUNCTION 1", "CALL 3 0 0", "RETURN 0", "FUNCTION 1", "CALL 4 0 0", "RETURN 0");
        variablesAfterInstructions();
        without();
        DUE.end();
    }

    private static void bases(String want, String... lines) {
        try {
            FrameBackEnd x = Programs.compiled(lines);
            int functions = want.split(" ").length;
            StringBuilder got = new StringBuilder();
            for (int f = 0; f < functions; f++) {
                got.append(f == 0 ? "" : " ").append(x.base(f));
            }
            DUE.is(String.join("; ", lines), got.toString(), want);
            DUE.is("base(" + functions + ")", x.base(functions), -1);
            DUE.is("base(-1)", x.base(-1), -1);
            DUE.is("base(max)", x.base(Integer.MAX_VALUE), -1);
            DUE.is("base(min)", x.base(Integer.MIN_VALUE), -1);
        } catch (IllegalStateException refused) {
            DUE.is(String.join("; ", lines), refused.getMessage(), want);
        }
    }

    private static void variablesAfterInstructions() {
        FrameBackEnd x = Programs.given("FUNCTION 1", "CALL 1 0 0", "RETURN 0");
        x.variable(4);
        Programs.give(x, "FUNCTION 1", "RETURN 0");
        x.compile();
        DUE.is("base(1)", x.base(1), 5);
    }

    private static void without() {
        FrameBackEnd x = Programs.given("FUNCTION 1", "RETURN 0");
        DUE.is("before compile()", x.base(0), -1);
        x.compile();
        DUE.is("after it", x.base(0), 0);
        x.start();
        DUE.is("in a run", x.base(0), 0);
        x.op(14, 0, 0, 0);
        DUE.is("after op()", x.base(0), -1);
    }
}
