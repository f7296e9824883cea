/** Promise 4: op. */
public final class OpTest {
    private static final Due DUE = new Due("OpTest");
    private static final int BYTE = 0;
    private static final int WIDE = 1;
    private static final int ARRAY = 2;
    private static final int NO_VARIABLE = 3;

    /** For each instruction the sorts of its arguments: s scalar, b BYTE, t ARRAY, k constant, - any number. */
    private static final String[] SORTS = {"sk-", "ss-", "sss", "sss", "sss", "sss", "sss", "s--",
        "stb", "tbs", "---", "s--", "ss-", "-ss", "s--", "s--"};

    public static void main(String[] args) {
        FrameBackEnd none = new FrameBackEnd();
        DUE.is("op without function", none.op(10, 0, 0, 0), -1);
        numbersOfInstructions();
        for (int op = 0; op < 16; op++) {
            allSorts(op);
        }
        constants();
        sixVariables();
        limits();
        takesAndKeepsCode();
        DUE.end();
    }

    private static void numbersOfInstructions() {
        int[] wrong = {-1, 16, 17, 255, Integer.MAX_VALUE, Integer.MIN_VALUE};
        FrameBackEnd x = Programs.given("FUNCTION 1 2 3");
        for (int op : wrong) {
            DUE.is("op(" + op + ", 0, 0, 0)", x.op(op, 0, 0, 0), -1);
        }
    }

    private static void allSorts(int op) {
        int[] tried = {BYTE, WIDE, ARRAY, NO_VARIABLE, 5, -1, Integer.MIN_VALUE, Integer.MAX_VALUE, 65535, 65536};
        for (int a : tried) {
            for (int b : tried) {
                FrameBackEnd x = Programs.given("FUNCTION 8 8 8 1", "FUNCTION 1 2 3");
                int number = 0;
                for (int c : tried) {
                    boolean right = suits(op, 0, a) && suits(op, 1, b) && suits(op, 2, c);
                    int want = right ? number++ : -1;
                    DUE.is("op(" + op + ", " + a + ", " + b + ", " + c + ")", x.op(op, a, b, c), want);
                }
            }
        }
    }

    private static boolean suits(int op, int position, int argument) {
        switch (SORTS[op].charAt(position)) {
            case 's':
                return argument == BYTE || argument == WIDE;
            case 'b':
                return argument == BYTE;
            case 't':
                return argument == ARRAY;
            case 'k':
                return argument >= 0 && argument <= 65535;
            default:
                return true;
        }
    }

    private static void constants() {
        FrameBackEnd x = Programs.given("FUNCTION 1 2");
        DUE.is("SET with 0", x.op(0, 0, 0, 0), 0);
        DUE.is("SET of a BYTE with 65535", x.op(0, 0, 65535, 0), 1);
        DUE.is("SET of a WIDE with 65535", x.op(0, 1, 65535, 0), 2);
        DUE.is("SET with 65536", x.op(0, 1, 65536, 0), -1);
        DUE.is("SET with -1", x.op(0, 1, -1, 0), -1);
    }

    private static void sixVariables() {
        FrameBackEnd x = Programs.given("FUNCTION 1 1 1 1 1 1");
        DUE.is("OUT 5", x.op(15, 5, 0, 0), 0);
        DUE.is("OUT 6", x.op(15, 6, 0, 0), -1);
    }

    private static void limits() {
        FrameBackEnd x = new FrameBackEnd();
        for (int f = 0; f < 2; f++) {
            Programs.give(x, "FUNCTION 1");
            for (int i = 0; i < 24; i++) {
                DUE.is("instruction " + i, x.op(14, 0, 0, 0), i);
            }
            DUE.is("25th instruction", x.op(14, 0, 0, 0), -1);
        }
        Programs.give(x, "FUNCTION 1");
        for (int i = 0; i < 12; i++) {
            DUE.is("instruction " + i, x.op(14, 0, 0, 0), i);
        }
        DUE.is("61st instruction", x.op(14, 0, 0, 0), -1);
        DUE.is("function()", x.function(), 3);
        DUE.is("variable(1)", x.variable(1), 0);
        DUE.is("61st instruction in another function", x.op(14, 0, 0, 0), -1);
    }

    private static void takesAndKeepsCode() {
        FrameBackEnd x = Programs.started("FUNCTION 1", "OUT 0", "RETURN 0");
        x.run(1);
        DUE.is("refused", x.op(14, 1, 0, 0), -1);
        DUE.is("length()", x.length(), 12);
        DUE.is("next()", x.next(), 1);
        DUE.is("output(-1)", x.output(-1), 1);
        DUE.is("accepted", x.op(14, 0, 0, 0), 2);
        DUE.is("length()", x.length(), 0);
        DUE.is("next()", x.next(), -1);
        DUE.is("output(-1)", x.output(-1), 0);
        DUE.is("start()", x.start(), false);
    }
}
