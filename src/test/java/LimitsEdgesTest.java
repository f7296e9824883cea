/** How much a program, a function and a variable may have: what is just accepted and what is just refused. */
public final class LimitsEdgesTest {
    private static final Due DUE = new Due("LimitsEdgesTest");
    private static final int LEAST = Integer.MIN_VALUE;
    private static final int GREATEST = Integer.MAX_VALUE;

    public static void main(String[] args) {
        functions();
        beginsWithFunctionZero();
        variables();
        sizes();
        sortOfSize();
        instructionsOfFunction();
        instructionsOfProgram();
        roomBesideInstructions();
        numbersOfOps();
        constants();
        variablesOfOthers();
        argumentsWithoutMeaning();
        DUE.end();
    }

    private static void functions() {
        DUE.by("Its number; -1, refused, if there are six.");
        FrameBackEnd x = new FrameBackEnd();
        for (int f = 0; f <= 5; f++) {
            DUE.is("function()", x.function(), f);
            DUE.is("variable(1)", x.variable(1), 0);
            DUE.is("RETURN 0", x.op(14, 0, 0, 0), 0);
            DUE.is("compile()", x.compile(), 0);
            DUE.is("base(" + f + ")", x.base(f), 0);
            DUE.is("base(" + (f + 1) + ")", x.base(f + 1), -1);
        }
        for (int k = 0; k < 3; k++) {
            DUE.is("function() with six", x.function(), -1);
        }
        DUE.is("length()", x.length(), 6 * 11);
        DUE.is("what comes is still of function 5", x.op(14, 0, 0, 0), 1);
        DUE.is("compile()", x.compile(), 0);
        DUE.is("address(5, 1)", x.address(5, 1), 66);
    }

    private static void beginsWithFunctionZero() {
        DUE.by("A PROGRAM has FUNCTIONS 0 .. 5 (it begins with function 0).");
        FrameBackEnd x = Programs.started("FUNCTION 1", "SET 0 10", "OUT 0", "RETURN 0",
                "FUNCTION 1", "SET 0 11", "OUT 0", "CALL 0 0 0", "RETURN 0");
        DUE.is("next()", x.next(), 0);
        DUE.is("run(1000)", x.run(1000), 3);
        DUE.is("output(0)", x.output(0), 10);
        DUE.is("output(-1)", x.output(-1), 1);
    }

    private static void variables() {
        DUE.by("-1, refused, if there is no function, the size is not as said, or it has six.");
        FrameBackEnd x = new FrameBackEnd();
        for (int size = 1; size <= 8; size++) {
            DUE.is("variable(" + size + ") without function", x.variable(size), -1);
        }
        for (int f = 0; f < 6; f++) {
            x.function();
            for (int v = 0; v <= 5; v++) {
                DUE.is("variable(1) of function " + f, x.variable(1), v);
            }
            for (int size = 1; size <= 8; size++) {
                DUE.is("seventh variable(" + size + ")", x.variable(size), -1);
            }
            DUE.is("OUT 5", x.op(15, 5, 0, 0), 0);
            DUE.is("OUT 6", x.op(15, 6, 0, 0), -1);
            DUE.is("RETURN 5", x.op(14, 5, 0, 0), 1);
        }
        x.compile();
        x.start();
        DUE.is("value(5, 0)", x.value(5, 0), 0);
        DUE.is("value(6, 0)", x.value(6, 0), -1);
    }

    private static void sizes() {
        DUE.by("Gives the latest function a variable of a size (1 .. 8): its number.");
        int[] wrong = {LEAST, LEAST + 1, -8, -1, 0, 9, 10, 16, 256, 257, 65537, GREATEST};
        for (int size : wrong) {
            FrameBackEnd x = Programs.given("FUNCTION");
            DUE.is("variable(" + size + ")", x.variable(size), -1);
            DUE.is("the next one is the first", x.variable(1), 0);
        }
        for (int size = 1; size <= 8; size++) {
            FrameBackEnd x = Programs.given("FUNCTION");
            DUE.is("variable(" + size + ")", x.variable(size), 0);
            Programs.give(x, "GOTO 0");
            x.compile();
            x.start();
            for (int i = -1; i <= 9; i++) {
                DUE.is("value(0, " + i + ") of size " + size, x.value(0, i), i >= 0 && i < size ? 0 : -1);
            }
        }
    }

    private static void sortOfSize() {
        DUE.by("a BYTE (size 1), a WIDE (size 2, the low byte first) or an ARRAY (size 3 .. 8, in bytes)");
        for (int size = 1; size <= 8; size++) {
            FrameBackEnd x = Programs.given("FUNCTION " + size + " 1 3");
            boolean scalar = size <= 2;
            DUE.is("SET of size " + size, x.op(0, 0, 1, 0) >= 0, scalar);
            DUE.is("ADD", x.op(2, 1, 1, 0) >= 0, scalar);
            DUE.is("OUT", x.op(15, 0, 0, 0) >= 0, scalar);
            DUE.is("LOAD with it as index", x.op(8, 1, 2, 0) >= 0, size == 1);
            DUE.is("STORE with it as index", x.op(9, 2, 0, 1) >= 0, size == 1);
            DUE.is("LOAD of it", x.op(8, 1, 0, 1) >= 0, size >= 3);
            DUE.is("STORE to it", x.op(9, 0, 1, 1) >= 0, size >= 3);
        }
        FrameBackEnd wide = Programs.started("FUNCTION 2", "SET 0 258", "RETURN 0");
        wide.run(1);
        DUE.is("the low byte is the first", wide.value(0, 0), 2);
        DUE.is("the high byte behind it", wide.value(0, 1), 1);
    }

    private static void instructionsOfFunction() {
        DUE.by("the function has 24 instructions");
        String[] each = {"SET 0 1", "MOVE 0 1", "ADD 0 0 0", "SUB 0 0 0", "AND 0 0 0", "OR 0 0 0", "XOR 0 0 0",
            "DOUBLE 0", "LOAD 0 2 0", "STORE 2 0 0", "GOTO 0", "ZERO 0 0", "BELOW 0 1 0", "CALL 1 0 0", "RETURN 0",
            "OUT 0"};
        for (int f = 0; f < 2; f++) {
            for (String line : each) {
                FrameBackEnd x = f == 0 ? new FrameBackEnd() : Programs.given("FUNCTION 1", "GOTO 0");
                Programs.give(x, "FUNCTION 1 2 3");
                for (int i = 0; i < 24; i++) {
                    DUE.is(line + " as number " + i, Programs.op(x, line), i);
                }
                for (String other : each) {
                    DUE.is(other + " as number 24", Programs.op(x, other), -1);
                }
                DUE.is("variable(1) with 24 instructions", x.variable(1), 3);
                DUE.is("function()", x.function(), f + 1);
                DUE.is("GOTO of the next function", x.op(10, 0, 0, 0), 0);
            }
        }
    }

    private static void instructionsOfProgram() {
        DUE.by("or there are 60");
        int[][] shapes = {{24, 24, 12}, {12, 24, 24}, {24, 12, 24}, {10, 10, 10, 10, 10, 10}, {1, 1, 1, 9, 24, 24},
            {24, 24, 11, 1}, {24, 24, 1, 1, 9, 1}};
        for (int[] shape : shapes) {
            FrameBackEnd x = new FrameBackEnd();
            for (int count : shape) {
                x.function();
                for (int i = 0; i < count; i++) {
                    DUE.is("GOTO 0 as number " + i, x.op(10, 0, 0, 0), i);
                }
            }
            DUE.is("the 61st", x.op(10, 0, 0, 0), -1);
            DUE.is("compile()", x.compile(), 0);
            DUE.is("length()", x.length(), 180);
            int last = shape.length - 1;
            DUE.is("the last one", x.address(last, shape[last] - 1), 177);
            DUE.is("behind it", x.address(last, shape[last]), -1);
        }
    }

    private static void roomBesideInstructions() {
        DUE.by("INSTRUCTIONS 0, 1, .. , at most 24, in all functions together at most 60");
        FrameBackEnd x = new FrameBackEnd();
        for (int f = 0; f < 5; f++) {
            Programs.give(x, "FUNCTION");
            Programs.give(x, Programs.times(12, "GOTO 11"));
        }
        DUE.is("variable(8) with 60 instructions", x.variable(8), 0);
        DUE.is("function()", x.function(), 5);
        DUE.is("variable(1)", x.variable(1), 0);
        DUE.is("an instruction for it", x.op(10, 0, 0, 0), -1);
        DUE.is("compile(): it has none", x.compile(), 1);
    }

    private static void numbersOfOps() {
        DUE.by("op is not 0 .. 15");
        int[] wrong = {LEAST, LEAST + 1, -16, -1, 16, 17, 31, 32, 256, 65536, GREATEST};
        for (int op : wrong) {
            FrameBackEnd x = Programs.given("FUNCTION 1");
            DUE.is("op(" + op + ", 0, 0, 0)", x.op(op, 0, 0, 0), -1);
            DUE.is("op(0, 0, 0, 0)", x.op(0, 0, 0, 0), 0);
            DUE.is("op(15, 0, 0, 0)", x.op(15, 0, 0, 0), 1);
        }
    }

    private static void constants() {
        DUE.by("k is not 0 .. 65535");
        int[] wrong = {LEAST, -65536, -256, -1, 65536, 65537, 131071, 16777216, GREATEST};
        for (int k : wrong) {
            FrameBackEnd x = Programs.given("FUNCTION 1 2");
            DUE.is("SET of a BYTE " + k, x.op(0, 0, k, 0), -1);
            DUE.is("SET of a WIDE " + k, x.op(0, 1, k, 0), -1);
        }
        int[] right = {0, 1, 255, 256, 32767, 32768, 65534, 65535};
        for (int k : right) {
            FrameBackEnd x = Programs.started("FUNCTION 1 2", "SET 0 " + k, "SET 1 " + k, "GOTO 0");
            x.run(2);
            DUE.is("a BYTE " + k, x.value(0, 0), k % 256);
            DUE.is("a WIDE " + k, x.value(1, 0) + 256 * x.value(1, 1), k);
        }
    }

    private static void variablesOfOthers() {
        DUE.by("a variable that it names is not one of the function");
        FrameBackEnd x = Programs.given("FUNCTION 1 1 1 1 1 1", "OUT 5", "FUNCTION 1");
        for (int v = -1; v <= 6; v++) {
            DUE.is("OUT " + v, x.op(15, v, 0, 0) >= 0, v == 0);
            DUE.is("MOVE 0 " + v, x.op(1, 0, v, 0) >= 0, v == 0);
            DUE.is("XOR 0 0 " + v, x.op(6, 0, 0, v) >= 0, v == 0);
        }
        DUE.is("variable(1)", x.variable(1), 1);
        DUE.is("it is one now", x.op(15, 1, 0, 0), 3);
    }

    private static void argumentsWithoutMeaning() {
        DUE.by("arguments in the order in which they are named above, those not named are of no meaning");
        int[] any = {LEAST, -1, 0, 6, 65536, GREATEST};
        for (int one : any) {
            FrameBackEnd x = Programs.given("FUNCTION 1 2 3");
            DUE.is("SET", x.op(0, 0, 1, one), 0);
            DUE.is("MOVE", x.op(1, 0, 1, one), 1);
            DUE.is("DOUBLE", x.op(7, 0, one, one), 2);
            DUE.is("OUT", x.op(15, 0, one, one), 3);
            DUE.is("ZERO", x.op(11, 0, 0, one), 4);
            DUE.is("GOTO", x.op(10, 6, one, one), 5);
            DUE.is("RETURN", x.op(14, 0, one, one), 6);
            DUE.is("compile()", x.compile(), 0);
            DUE.by("(Targets and functions that are called may be any numbers here.)");
            DUE.is("GOTO " + one, x.op(10, one, 0, 0), 7);
            DUE.is("ZERO 0 " + one, x.op(11, 0, one, 0), 8);
            DUE.is("BELOW 0 1 " + one, x.op(12, 0, 1, one), 9);
            DUE.is("CALL " + one, x.op(13, one, 0, 1), 10);
        }
    }
}
