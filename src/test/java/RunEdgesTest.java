/** run() with the least and the greatest counts, and runs that end or FAULT just before, at and behind the last one. */
public final class RunEdgesTest {
    private static final Due DUE = new Due("RunEdgesTest");
    private static final int[] WRONG = {Integer.MIN_VALUE, -1000, -1, 1001, 1002, 65536, Integer.MAX_VALUE};

    public static void main(String[] args) {
        countsWithoutRun();
        countsInRun();
        countsAfterRun();
        endsInside();
        noneIsDone();
        oneByOne();
        callAndReturn();
        everyInstructionCounts();
        greatestSpent();
        DUE.end();
    }

    private static void countsWithoutRun() {
        DUE.by("-1, refused, if there is no run or n is not 0 .. 1000");
        int[] right = {0, 1, 999, 1000};
        FrameBackEnd none = new FrameBackEnd();
        FrameBackEnd given = Programs.given("FUNCTION 1", "RETURN 0");
        FrameBackEnd compiled = Programs.compiled("FUNCTION 1", "RETURN 0");
        for (int n : right) {
            DUE.is("run(" + n + ") of a new object", none.run(n), -1);
            DUE.is("run(" + n + ") without code", given.run(n), -1);
            DUE.is("run(" + n + ") without start()", compiled.run(n), -1);
        }
        for (int n : WRONG) {
            DUE.is("run(" + n + ") without start()", compiled.run(n), -1);
        }
        DUE.is("start()", compiled.start(), true);
        DUE.is("run(1000)", compiled.run(1000), 1);
    }

    private static void countsInRun() {
        DUE.by("-1, refused, if there is no run or n is not 0 .. 1000");
        FrameBackEnd x = Programs.started("FUNCTION", "GOTO 0");
        for (int n : WRONG) {
            DUE.is("run(" + n + ")", x.run(n), -1);
            DUE.is("spent()", x.spent(), 0);
        }
        int sum = 0;
        int[] right = {0, 1, 2, 999, 1000, 0, 500};
        for (int n : right) {
            DUE.is("run(" + n + ")", x.run(n), n);
            sum += n;
            DUE.is("spent()", x.spent(), sum);
        }
    }

    private static void countsAfterRun() {
        DUE.by("Does n instructions of the program (not of the processor), fewer if it ends or there is a FAULT");
        FrameBackEnd ended = Programs.started("FUNCTION 1", "RETURN 0");
        FrameBackEnd fault = Programs.started("FUNCTION 1 3", "SET 0 3", "LOAD 0 1 0", "RETURN 0");
        ended.run(1);
        fault.run(2);
        int[] right = {0, 1, 1000};
        for (int n : right) {
            DUE.is("run(" + n + ") after the end", ended.run(n), 0);
            DUE.is("run(" + n + ") after a FAULT", fault.run(n), 0);
        }
        for (int n : WRONG) {
            DUE.is("run(" + n + ") after the end", ended.run(n), -1);
            DUE.is("run(" + n + ") after a FAULT", fault.run(n), -1);
        }
        DUE.is("state() after the end", ended.state(), 1);
        DUE.is("state() after a FAULT", fault.state(), 2);
    }

    /** A loop of two instructions, 498 times: with two before it and two behind it, 1000 are done at the end. */
    private static void endsInside() {
        DUE.by("fewer if it ends or there is a FAULT: how many were done");
        for (int n = 998; n <= 1000; n++) {
            FrameBackEnd x = countdown();
            DUE.is("run(" + n + ")", x.run(n), n);
            DUE.is("state() after " + n, x.state(), n < 1000 ? 0 : 1);
            DUE.is("the rest", x.run(1000), 1000 - n);
            DUE.is("state()", x.state(), 1);
            DUE.is("run(1000)", x.run(1000), 0);
        }
        for (int n = 0; n <= 4; n++) {
            FrameBackEnd x = Programs.started("FUNCTION 1", "OUT 0", "OUT 0", "RETURN 0");
            DUE.is("run(" + n + ")", x.run(n), Math.min(n, 3));
            DUE.is("state()", x.state(), n < 3 ? 0 : 1);
            DUE.is("output(-1)", x.output(-1), Math.min(n, 2));
        }
    }

    private static FrameBackEnd countdown() {
        return Programs.started("FUNCTION 2 2 2", "SET 1 498", "SET 2 1", "SUB 1 1 2", "BELOW 0 1 2", "SET 0 1",
                "RETURN 0");
    }

    private static void noneIsDone() {
        DUE.by("Does n instructions of the program (not of the processor)");
        FrameBackEnd x = Programs.started("FUNCTION 1", "SET 0 1", "OUT 0", "RETURN 0");
        for (int k = 0; k < 3; k++) {
            DUE.is("run(0)", x.run(0), 0);
            DUE.is("spent()", x.spent(), 0);
            DUE.is("next()", x.next(), 0);
            DUE.is("value(0, 0)", x.value(0, 0), 0);
            DUE.is("output(-1)", x.output(-1), 0);
            DUE.is("state()", x.state(), 0);
        }
    }

    /** run(n) does the same as n times run(1). */
    private static void oneByOne() {
        DUE.by("Does n instructions of the program (not of the processor)");
        String[] lines = {"FUNCTION 1 2 3", "SET 0 2", "CALL 1 0 1", "OUT 1", "STORE 2 0 1", "SUB 0 0 1", "GOTO 1",
            "FUNCTION 1 1", "DOUBLE 1", "SET 1 1", "RETURN 1"};
        FrameBackEnd single = Programs.started(lines);
        for (int n = 0; n <= 40; n++) {
            FrameBackEnd whole = Programs.started(lines);
            int done = whole.run(n);
            DUE.is("state() after " + n, whole.state(), single.state());
            DUE.is("next()", whole.next(), single.next());
            DUE.is("depth()", whole.depth(), single.depth());
            DUE.is("spent()", whole.spent(), single.spent());
            DUE.is("output(-1)", whole.output(-1), single.output(-1));
            DUE.is("value(1, 0)", whole.value(1, 0), single.value(1, 0));
            boolean goesOn = single.state() == 0;
            DUE.is("run(1)", single.run(1), goesOn ? 1 : 0);
            DUE.is("run(" + n + ")", done == n || whole.state() != 0, true);
        }
        DUE.is("it came to a FAULT", single.state(), 2);
    }

    private static void callAndReturn() {
        DUE.by("RETURN is one, with what the code of the CALL has behind its JSR; CALL is one, with what stands before"
                + " that and the JSR; those of the function between them are others");
        FrameBackEnd x = Programs.started("FUNCTION 2 2", "SET 0 513", "CALL 1 0 1", "RETURN 1", "FUNCTION 2",
                "RETURN 0");
        int[] nexts = {0, 1, 24, 2, -1};
        int[] spents = {0, 4, 9, 18, 23};
        int[] depths = {1, 1, 2, 1, 0};
        for (int k = 0; k < nexts.length; k++) {
            DUE.is("next() after " + k, x.next(), nexts[k]);
            DUE.is("spent() after " + k, x.spent(), spents[k]);
            DUE.is("depth() after " + k, x.depth(), depths[k]);
            if (k == 3) {
                DUE.is("the RESULT is there already", x.value(1, 0) + 256 * x.value(1, 1), 513);
            }
            DUE.is("run(1)", x.run(1), k < 4 ? 1 : 0);
        }
    }

    /** One of each instruction, in a row: each is one, however many its code has. */
    private static void everyInstructionCounts() {
        DUE.by("How many instructions of the processor were done since the start (a TRAP counts); 0 if there is no"
                + " run.");
        FrameBackEnd x = Programs.started("FUNCTION 1 2 3", "SET 1 1", "MOVE 1 0", "ADD 1 1 0", "SUB 1 1 0",
                "AND 1 1 1", "OR 1 1 1", "XOR 1 1 1", "DOUBLE 1", "LOAD 1 2 0", "STORE 2 0 1", "GOTO 11", "ZERO 1 12",
                "BELOW 1 0 13", "CALL 1 1 1", "OUT 1", "RETURN 1", "FUNCTION 2", "RETURN 0");
        int[] each = {4, 4, 7, 7, 6, 6, 6, 2, 7, 5, 1, 3, 5, 5, 9, 4, 5};
        int sum = 0;
        for (int k = 0; k < each.length; k++) {
            sum += each[k];
            DUE.is("run(1)", x.run(1), 1);
            DUE.is("spent() after " + (k + 1), x.spent(), sum);
        }
        DUE.is("state()", x.state(), 1);
    }

    /** The dearest instruction that goes on for ever, with all the calls that an object has. */
    private static void greatestSpent() {
        DUE.by("An object is used for at most 512 calls after it has been made");
        FrameBackEnd x = Programs.started("FUNCTION 2 2", "OUT 0", "ADD 0 0 0", "GOTO 0");
        int calls = 1 + 2 + 3 + 2;
        for (; calls < 510; calls++) {
            x.run(1000);
        }
        int runs = 510 - 8;
        DUE.is("spent()", x.spent(), runs * 1000 / 3 * 12 + spentOfRest(runs * 1000 % 3));
        DUE.is("output(-1), the 512th call", x.output(-1), 2 * (runs * 1000 / 3) + (runs * 1000 % 3 > 0 ? 2 : 0));
    }

    private static int spentOfRest(int instructions) {
        return instructions == 0 ? 0 : instructions == 1 ? 4 : 11;
    }
}
