/** Promise 12: run, and what each instruction does. */
public final class RunTest {
    private static final Due DUE = new Due("RunTest");

    public static void main(String[] args) {
        refused();
        counts();
        callsAndReturns();
        scalars();
        arithmetic();
        arrays();
        flow();
        farthestBranches();
        parameters();
        resultOfNothing();
        DUE.end();
    }

    private static void refused() {
        FrameBackEnd x = Programs.given("FUNCTION 1", "ADD 0 0 0", "GOTO 0");
        DUE.is("run(1) without code", x.run(1), -1);
        x.compile();
        DUE.is("run(1) without run", x.run(1), -1);
        DUE.is("run(0) without run", x.run(0), -1);
        x.start();
        int[] wrong = {-1, 1001, Integer.MAX_VALUE, Integer.MIN_VALUE};
        for (int n : wrong) {
            DUE.is("run(" + n + ")", x.run(n), -1);
        }
        DUE.is("spent()", x.spent(), 0);
        DUE.is("next()", x.next(), 0);
        DUE.is("run(0)", x.run(0), 0);
        DUE.is("spent()", x.spent(), 0);
        DUE.is("run(1000)", x.run(1000), 1000);
        DUE.is("next()", x.next(), 0);
        DUE.is("run(999)", x.run(999), 999);
        DUE.is("next()", x.next(), 1);
    }

    private static void counts() {
        FrameBackEnd x = Programs.started("FUNCTION 1", "OUT 0", "OUT 0", "RETURN 0");
        DUE.is("run(2)", x.run(2), 2);
        DUE.is("run(5)", x.run(5), 1);
        DUE.is("run(5) after the end", x.run(5), 0);
        DUE.is("run(1001) after the end", x.run(1001), -1);
        x.start();
        DUE.is("run(3)", x.run(3), 3);
        FrameBackEnd y = Programs.started("FUNCTION 1 3", "SET 0 3", "LOAD 0 1 0", "RETURN 0");
        DUE.is("run(9) with a FAULT", y.run(9), 2);
        DUE.is("run(9) after it", y.run(9), 0);
        FrameBackEnd z = Programs.started("FUNCTION", "GOTO 0");
        DUE.is("a GOTO to itself", z.run(7), 7);
        DUE.is("spent()", z.spent(), 7);
    }

    private static void callsAndReturns() {
        FrameBackEnd x = Programs.started("FUNCTION 1 2", "SET 0 5", "CALL 1 0 1", "OUT 1", "RETURN 0",
                "FUNCTION 1", "RETURN 0");
        DUE.is("run(2)", x.run(2), 2);
        DUE.is("next()", x.next(), 24);
        DUE.is("spent()", x.spent(), 4);
        DUE.is("run(1)", x.run(1), 1);
        DUE.is("next()", x.next(), 2);
        DUE.is("the RESULT is there", x.value(1, 0), 5);
        DUE.is("spent()", x.spent(), 4 + 5 + 4);
    }

    /** Runs the lines in a function with two BYTEs, two WIDEs and an ARRAY, all of which are put out at the end. */
    private static void puts(String want, String... lines) {
        String[] program = Programs.join(Programs.lines("FUNCTION 1 1 2 2 4"), lines,
                Programs.lines("OUT 0", "OUT 1", "OUT 2", "OUT 3", "RETURN 0"));
        FrameBackEnd x = Programs.started(program);
        x.run(1000);
        StringBuilder got = new StringBuilder();
        for (int k = 0; k < x.output(-1); k++) {
            got.append(k == 0 ? "" : " ").append(x.output(k));
        }
        DUE.is(String.join("; ", lines), got.toString(), want);
    }

    private static void scalars() {
        puts("44 0 44 1 0 0", "SET 0 300", "SET 2 300");
        puts("7 7 7 0 0 0", "SET 0 7", "MOVE 1 0", "MOVE 2 1");
        puts("0 44 44 1 44 1", "SET 2 300", "MOVE 1 2", "MOVE 3 2");
        puts("9 0 9 0 255 255", "SET 2 65535", "SET 3 65535", "SET 0 9", "MOVE 2 0");
    }

    private static void arithmetic() {
        puts("44 100 44 1 0 0", "SET 0 200", "SET 1 100", "ADD 2 0 1", "ADD 0 0 1");
        puts("0 1 0 0 255 255", "SET 3 65535", "SET 1 1", "ADD 2 3 1", "ADD 0 3 1");
        puts("255 1 255 255 0 0", "SET 1 1", "SUB 2 0 1", "SUB 0 0 1");
        puts("0 1 255 0 0 1", "SET 3 256", "SET 1 1", "SUB 2 3 1");
        puts("8 12 8 0 26 255", "SET 0 26", "SET 1 12", "SET 3 65306", "AND 2 3 1", "AND 0 0 1");
        puts("30 12 30 255 26 255", "SET 0 26", "SET 1 12", "SET 3 65306", "OR 2 3 1", "OR 0 0 1");
        puts("22 12 22 255 26 255", "SET 0 26", "SET 1 12", "SET 3 65306", "XOR 2 3 1", "XOR 0 0 1");
        puts("144 0 144 3 0 0", "SET 0 200", "SET 2 456", "DOUBLE 0", "DOUBLE 2");
        puts("0 0 0 0 0 0", "SET 0 128", "SET 2 32768", "DOUBLE 0", "DOUBLE 2");
        puts("2 0 0 1 0 0", "SET 0 255", "SET 2 128", "DOUBLE 0", "DOUBLE 2", "SET 0 1", "DOUBLE 0");
    }

    private static void arrays() {
        puts("3 77 77 0 0 0", "SET 0 3", "SET 1 77", "STORE 4 0 1", "LOAD 2 4 0");
        puts("77 77 0 0 0 0", "SET 0 3", "SET 1 77", "STORE 4 0 1", "LOAD 0 4 0");
        puts("2 232 232 3 0 0", "SET 0 2", "SET 2 1000", "STORE 4 0 2", "LOAD 1 4 0");
        for (int index = 0; index < 256; index += index < 8 ? 1 : 31) {
            FrameBackEnd x = Programs.started("FUNCTION 1 4 1", "SET 0 " + index, "STORE 1 0 0", "LOAD 2 1 0", "OUT 2",
                    "RETURN 0");
            DUE.is("run(9)", x.run(9), index < 4 ? 5 : 2);
            DUE.is("state() with " + index, x.state(), index < 4 ? 1 : 2);
            DUE.is("output(0)", x.output(0), index < 4 ? index : -1);
            FrameBackEnd y = Programs.started("FUNCTION 1 4 1", "SET 0 " + index, "LOAD 2 1 0", "RETURN 0");
            DUE.is("run(9)", y.run(9), index < 4 ? 3 : 2);
            DUE.is("state()", y.state(), index < 4 ? 1 : 2);
        }
    }

    private static void flow() {
        puts("0 5 0 0 0 0", "ZERO 0 2", "SET 0 9", "SET 1 5");
        puts("1 9 0 0 0 0", "SET 0 1", "ZERO 0 3", "SET 1 9");
        puts("0 9 0 1 0 0", "SET 2 256", "ZERO 2 3", "SET 1 9");
        puts("0 9 1 0 0 0", "SET 2 1", "ZERO 2 3", "SET 1 9");
        puts("0 0 0 0 0 0", "ZERO 2 2", "SET 1 9");
        puts("0 9 0 0 0 0", "GOTO 2", "SET 0 9", "SET 1 9");
        int[] tried = {0, 1, 2, 254, 255, 256, 257, 511, 512, 32767, 32768, 65534, 65535};
        for (int left : tried) {
            for (int right : tried) {
                below(2, left, 3, right);
                below(0, left & 255, 3, right);
                below(2, left, 1, right & 255);
                below(0, left & 255, 1, right & 255);
            }
        }
    }

    /** 9 ADDs of a WIDE have 117 bytes, that of a BYTE 7, the LDA of the ZERO 2: with the branch that is 128. */
    private static void farthestBranches() {
        FrameBackEnd back = Programs.started(Programs.join(Programs.lines("FUNCTION 1 2"),
                Programs.times(9, "ADD 1 1 1"), Programs.lines("ADD 0 0 0", "ZERO 0 0", "GOTO 11")));
        DUE.is("128 back", back.code(127), 128);
        DUE.is("run(11)", back.run(11), 11);
        DUE.is("next()", back.next(), 0);
        FrameBackEnd ahead = Programs.started(Programs.join(Programs.lines("FUNCTION 1 2", "ZERO 0 13"),
                Programs.times(9, "ADD 1 1 1"), Programs.lines("ADD 0 0 0", "OUT 0", "DOUBLE 0", "GOTO 0")));
        DUE.is("127 ahead", ahead.code(3), 127);
        DUE.is("run(1)", ahead.run(1), 1);
        DUE.is("next()", ahead.next(), 13);
    }

    private static void below(int a, int left, int b, int right) {
        FrameBackEnd x = Programs.started("FUNCTION 1 1 2 2", "SET " + a + " " + left, "SET " + b + " " + right,
                "BELOW " + a + " " + b + " 4", "RETURN 0", "RETURN 1");
        x.run(3);
        DUE.is(left + " below " + right + " (" + a + ", " + b + ")", x.next(), left < right ? 4 : 3);
    }

    private static void parameters() {
        int[] callee = {1, 2, 3};
        for (int size : callee) {
            FrameBackEnd x = Programs.started("FUNCTION 2 1 2", "SET 0 1000", "CALL 1 0 1", "CALL 1 1 2", "RETURN 0",
                    "FUNCTION " + size + " 2", "SET 1 770", "RETURN 1");
            x.run(2);
            DUE.is("low byte to size " + size, x.value(0, 0), size < 3 ? 232 : 0);
            DUE.is("high byte", x.value(0, 1), size == 1 ? -1 : size == 2 ? 3 : 0);
            x.run(2);
            DUE.is("RESULT in a BYTE", x.value(1, 0), 2);
            x.run(1);
            DUE.is("a BYTE to size " + size, x.value(0, 0), size < 3 ? 2 : 0);
            DUE.is("its high byte", x.value(0, 1), size == 1 ? -1 : 0);
            x.run(2);
            DUE.is("RESULT in a WIDE", x.value(2, 0) + 256 * x.value(2, 1), 770);
            DUE.is("next()", x.next(), 3);
        }
    }

    /** A RETURN of a BYTE makes the high byte of the RESULT 0. */
    private static void resultOfNothing() {
        FrameBackEnd x = Programs.started("FUNCTION 2", "CALL 1 0 0", "CALL 2 0 0", "OUT 0", "RETURN 0",
                "FUNCTION 2", "SET 0 65535", "RETURN 0", "FUNCTION 1 1", "RETURN 1");
        x.run(3);
        DUE.is("high byte", x.value(0, 1), 255);
        x.run(3);
        DUE.is("low byte put out: what function 1 left in the place they share", x.output(0), 255);
        DUE.is("high byte put out", x.output(1), 0);
    }
}
