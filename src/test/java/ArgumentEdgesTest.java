/** Questions with the least and the greatest arguments, and with those just inside and outside of what is there. */
public final class ArgumentEdgesTest {
    private static final Due DUE = new Due("ArgumentEdgesTest");
    private static final int LEAST = Integer.MIN_VALUE;
    private static final int GREATEST = Integer.MAX_VALUE;
    private static final int[] WILD = {LEAST, LEAST + 1, LEAST + 24, -65536, -501, -256, -128, -24, -6, -2, 24, 60, 128,
        256, 500, 501, 512, 65535, 65536, GREATEST - 127, GREATEST - 1, GREATEST};

    public static void main(String[] args) {
        codes();
        longestCode();
        bases();
        addresses();
        values();
        valuesOfTheNextFunction();
        wildWithoutAnything();
        DUE.end();
    }

    private static void codes() {
        DUE.by("Byte i of the code (0 .. 255); -1 if there is none.");
        FrameBackEnd x = Programs.compiled("FUNCTION", "GOTO 0");
        int[] bytes = {151, 0, 0};
        for (int i = -3; i < 7; i++) {
            DUE.is("code(" + i + ")", x.code(i), i >= 0 && i < 3 ? bytes[i] : -1);
        }
        for (int i : WILD) {
            DUE.is("code(" + i + ")", x.code(i), -1);
        }
        FrameBackEnd high = Programs.compiled("FUNCTION 2", "SET 0 65535", "GOTO 0");
        DUE.is("the greatest byte", high.code(1), 255);
    }

    /** Code that was 500 bytes long is followed by none that is: nothing of it may be left to be seen. */
    private static void longestCode() {
        DUE.by("How many bytes the code has; 0 if there is none.");
        String[] lines = Programs.join(Programs.lines("FUNCTION 1 2"), Programs.fill(163), Programs.lines("GOTO 0"),
                Programs.lines("FUNCTION 1 2"), Programs.fill(163), Programs.lines("GOTO 0"),
                Programs.lines("FUNCTION 1 2"), Programs.fill(165), Programs.lines("GOTO 0"));
        FrameBackEnd x = Programs.compiled(lines);
        DUE.is("length()", x.length(), 500);
        DUE.is("code(499)", x.code(499), 1);
        DUE.is("code(500)", x.code(500), -1);
        DUE.is("the last address", x.address(2, 16), 497);
        DUE.is("behind it", x.address(2, 17), -1);
        DUE.is("op", x.op(15, 0, 0, 0) >= 0, true);
        DUE.is("op", x.op(10, 0, 0, 0) >= 0, true);
        DUE.is("compile()", x.compile(), 6);
        DUE.is("length()", x.length(), 0);
        for (int i = 0; i <= 500; i += 50) {
            DUE.is("code(" + i + ")", x.code(i), -1);
        }
    }

    private static void bases() {
        DUE.by("The base of a function's frame; -1 if there is no code or no such function.");
        FrameBackEnd x = Programs.given("FUNCTION 1", "GOTO 0");
        for (int f = 0; f < 6; f++) {
            DUE.is("base(" + f + ") without code", x.base(f), -1);
            x.compile();
            for (int g = -2; g <= 7; g++) {
                DUE.is("base(" + g + ") of " + (f + 1), x.base(g), g >= 0 && g <= f ? 0 : -1);
            }
            if (f < 5) {
                Programs.give(x, "FUNCTION 1", "GOTO 0");
            }
        }
        for (int g : WILD) {
            DUE.is("base(" + g + ")", x.base(g), -1);
        }
    }

    /** Instructions stand in one row: one behind the end of a function must not be the first one of the next. */
    private static void addresses() {
        DUE.by("Where the code of instruction i of function f begins; -1 if there is no code or no such instruction.");
        FrameBackEnd x = Programs.compiled("FUNCTION", "GOTO 0", "GOTO 0", "FUNCTION", "GOTO 0", "FUNCTION", "GOTO 0",
                "GOTO 0", "GOTO 0");
        int[] counts = {2, 1, 3};
        int address = 0;
        for (int f = -1; f <= 6; f++) {
            int count = f >= 0 && f < 3 ? counts[f] : 0;
            for (int i = -4; i <= 6; i++) {
                boolean there = i >= 0 && i < count;
                DUE.is("address(" + f + ", " + i + ")", x.address(f, i), there ? address : -1);
                address += there ? 3 : 0;
            }
            for (int i : WILD) {
                DUE.is("address(" + f + ", " + i + ")", x.address(f, i), -1);
            }
        }
        for (int f : WILD) {
            DUE.is("address(" + f + ", 0)", x.address(f, 0), -1);
            DUE.is("address(" + f + ", " + f + ")", x.address(f, f), -1);
        }
    }

    /** Variables stand side by side: one byte behind a variable must not be the first one of the next. */
    private static void values() {
        DUE.by("-1 if there is no such byte or variable, or next() is -1");
        FrameBackEnd x = Programs.started("FUNCTION 1 2 8 3", "SET 0 1", "SET 1 770", "STORE 2 0 0", "RETURN 0");
        x.run(3);
        int[][] want = {{1}, {2, 3}, {0, 1, 0, 0, 0, 0, 0, 0}, {0, 0, 0}};
        for (int v = -2; v <= 7; v++) {
            int size = v >= 0 && v < 4 ? want[v].length : 0;
            for (int i = -3; i <= 9; i++) {
                DUE.is("value(" + v + ", " + i + ")", x.value(v, i), i >= 0 && i < size ? want[v][i] : -1);
            }
        }
        for (int one : WILD) {
            DUE.is("value(0, " + one + ")", x.value(0, one), -1);
            DUE.is("value(3, " + one + ")", x.value(3, one), -1);
            DUE.is("value(" + one + ", 0)", x.value(one, 0), -1);
            DUE.is("value(" + one + ", " + one + ")", x.value(one, one), -1);
        }
        x.run(1);
        DUE.is("value(0, 0) at the end", x.value(0, 0), -1);
    }

    private static void valuesOfTheNextFunction() {
        DUE.by("Byte i (from 0) of variable v of the function whose instruction is next, as it is in the data");
        FrameBackEnd x = Programs.started("FUNCTION 1 3 1", "SET 0 7", "SET 2 9", "CALL 1 0 2", "RETURN 0",
                "FUNCTION 2", "RETURN 0");
        x.run(2);
        DUE.is("value(2, 0) of function 0", x.value(2, 0), 9);
        x.run(1);
        DUE.is("value(0, 0) of function 1", x.value(0, 0), 7);
        DUE.is("value(0, 1) of function 1", x.value(0, 1), 0);
        DUE.is("function 1 has no variable 1", x.value(1, 0), -1);
        DUE.is("nor 2", x.value(2, 0), -1);
        x.run(1);
        DUE.is("value(2, 0) of function 0", x.value(2, 0), 7);
        DUE.is("value(0, 1): a BYTE again", x.value(0, 1), -1);
    }

    private static void wildWithoutAnything() {
        DUE.by("No functions; no code; no run.");
        FrameBackEnd x = new FrameBackEnd();
        for (int one : WILD) {
            DUE.is("code(" + one + ")", x.code(one), -1);
            DUE.is("base(" + one + ")", x.base(one), -1);
            DUE.is("address(" + one + ", 0)", x.address(one, 0), -1);
            DUE.is("address(0, " + one + ")", x.address(0, one), -1);
            DUE.is("value(" + one + ", 0)", x.value(one, 0), -1);
            DUE.is("value(0, " + one + ")", x.value(0, one), -1);
            DUE.is("output(" + one + ")", x.output(one), -1);
            DUE.is("run(" + one + ")", x.run(one), -1);
            DUE.is("variable(" + one + ")", x.variable(one), -1);
            DUE.is("op(" + one + ", 0, 0, 0)", x.op(one, 0, 0, 0), -1);
        }
        DUE.is("output(-1)", x.output(-1), 0);
        DUE.is("compile()", x.compile(), 1);
        DUE.is("function()", x.function(), 0);
    }
}
