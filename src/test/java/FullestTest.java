/** The emptiest program, and one in which all that has a limit is at it, used for all the calls that an object has. */
public final class FullestTest {
    private static final Due DUE = new Due("FullestTest");

    public static void main(String[] args) {
        emptiest();
        fullest();
        allCalls();
        DUE.end();
    }

    private static void emptiest() {
        DUE.by("1 if there is no function, or one has no instructions or its last one is not GOTO or RETURN");
        FrameBackEnd x = Programs.compiled("FUNCTION", "GOTO 0");
        DUE.is("length()", x.length(), 3);
        DUE.is("longs()", x.longs(), 0);
        DUE.is("base(0)", x.base(0), 0);
        DUE.is("address(0, 0)", x.address(0, 0), 0);
        DUE.is("start()", x.start(), true);
        DUE.is("run(1000)", x.run(1000), 1000);
        DUE.is("spent()", x.spent(), 1000);
        DUE.is("next()", x.next(), 0);
        DUE.is("depth()", x.depth(), 1);
        DUE.is("value(0, 0)", x.value(0, 0), -1);
        DUE.is("output(-1)", x.output(-1), 0);
        FrameBackEnd end = Programs.started("FUNCTION 1", "RETURN 0");
        DUE.is("the least that ends", end.run(1000), 1);
    }

    /**
     * Six functions in a chain, each with six variables of 20 bytes; 24 + 4 * 3 + 24 instructions; 111 + 4 * 48 + 197
     * bytes of code.
     */
    private static String[] full() {
        String[] lines = Programs.join(Programs.lines("FUNCTION 2 1 8 7 1 1", "SET 1 1", "CALL 1 0 0", "DOUBLE 1",
                "ZERO 1 23"), Programs.times(3, "ADD 0 0 0"), Programs.times(12, "OUT 1"),
                Programs.lines("DOUBLE 0", "DOUBLE 0", "DOUBLE 4", "GOTO 1", "RETURN 0"));
        for (int f = 1; f < 5; f++) {
            lines = Programs.join(lines, Programs.lines("FUNCTION 2 1 8 7 1 1", "OUT 0", "CALL " + (f + 1) + " 0 0",
                    "RETURN 0"));
        }
        return Programs.join(lines, Programs.lines("FUNCTION 2 1 8 7 1 1"), Programs.times(23, "OUT 0"),
                Programs.lines("RETURN 0"));
    }

    private static void fullest() {
        DUE.by("A PROGRAM has FUNCTIONS 0 .. 5 .. A function has VARIABLES 0 .. 5 .. INSTRUCTIONS 0, 1, .. , at most"
                + " 24, in all functions together at most 60");
        FrameBackEnd x = Programs.given(full());
        DUE.is("a seventh function", x.function(), -1);
        DUE.is("a seventh variable", x.variable(1), -1);
        DUE.is("a 61st instruction", x.op(10, 0, 0, 0), -1);
        DUE.is("compile()", x.compile(), 0);
        DUE.is("length()", x.length(), 500);
        DUE.is("code(499), the last RTS", x.code(499), 160);
        for (int f = 0; f < 6; f++) {
            DUE.is("base(" + f + ")", x.base(f), 20 * f);
        }
        DUE.is("address(5, 23)", x.address(5, 23), 487);
        x.start();
        DUE.is("run(6)", x.run(6), 6);
        DUE.is("run(4)", x.run(4), 4);
        DUE.is("depth()", x.depth(), 6);
        DUE.is("next()", x.next(), 120);
        DUE.is("value(5, 0), at 119", x.value(5, 0), 0);
        DUE.is("run(1000)", x.run(1000), 447 - 10);
        DUE.is("state()", x.state(), 1);
        DUE.is("output(-1)", x.output(-1), 516);
        DUE.is("output(99)", x.output(99) >= 0, true);
        DUE.is("output(100)", x.output(100), -1);
    }

    /** 102 calls give the program, and with the last of 512 the object still answers as it did at first. */
    private static void allCalls() {
        DUE.by("An object is used for at most 512 calls after it has been made");
        FrameBackEnd x = Programs.given(full());
        int calls = 102;
        int turns = 0;
        for (; calls + 6 < 512; calls += 6) {
            DUE.is("compile()", x.compile(), 0);
            DUE.is("start()", x.start(), true);
            DUE.is("run(1000)", x.run(1000), 447);
            DUE.is("run(1)", x.run(1), 0);
            DUE.is("output(-1)", x.output(-1), 516);
            DUE.is("function()", x.function(), -1);
            turns++;
        }
        DUE.is("turns", turns, 68);
        DUE.is("length(), the 511th call", x.length(), 500);
        DUE.is("code(499), the 512th call", x.code(499), 160);
    }
}
