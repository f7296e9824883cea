/**
 * Promises 1 to 18, sentence by sentence in the order of the document, each with the other sentences on which it rests;
 * what is due was worked out by hand.
 */
public final class PromisesTest {
    private static final Due DUE = new Due("PromisesTest");
    private static final int MIN = Integer.MIN_VALUE;
    private static final int MAX = Integer.MAX_VALUE;

    /**
     * Function 0 gives 1000 to function 1, which adds nothing to it and puts it out. The code: SET has 8 bytes, CALL
     * 8 + 3 + 10, OUT 6, RETURN 11; ADD 13, OUT 6, RETURN 11; so they begin at 0, 8, 29, 35; 46, 59, 65, and end at 76.
     */
    private static final String[] TWO = {"FUNCTION 2 1", "SET 0 1000", "CALL 1 0 0", "OUT 0", "RETURN 1",
        "FUNCTION 2 1", "ADD 0 0 1", "OUT 0", "RETURN 0"};

    public static void main(String[] args) {
        promise1();
        promise2();
        promise3();
        promise4();
        promise4Limits();
        promise5();
        promise5Order();
        promise6();
        promise7();
        promise8();
        promise9();
        promise10();
        promise11();
        promise12();
        promise12Counts();
        promise13();
        promise14();
        promise15();
        promise16();
        promise17();
        promise18();
        DUE.end();
    }

    private static void promise1() {
        DUE.by("No functions; no code; no run.");
        FrameBackEnd x = new FrameBackEnd();
        DUE.is("compile(), for there is no function", x.compile(), 1);
        noCode(x);
        noRun(x);
        DUE.is("function(), the first one", x.function(), 0);
    }

    private static void noCode(FrameBackEnd x) {
        DUE.is("length()", x.length(), 0);
        DUE.is("code(0)", x.code(0), -1);
        DUE.is("longs()", x.longs(), 0);
        DUE.is("base(0)", x.base(0), -1);
        DUE.is("address(0, 0)", x.address(0, 0), -1);
        DUE.is("start()", x.start(), false);
    }

    private static void noRun(FrameBackEnd x) {
        DUE.is("run(0)", x.run(0), -1);
        DUE.is("state()", x.state(), -1);
        DUE.is("spent()", x.spent(), 0);
        DUE.is("next()", x.next(), -1);
        DUE.is("depth()", x.depth(), 0);
        DUE.is("value(0, 0)", x.value(0, 0), -1);
        DUE.is("output(-1)", x.output(-1), 0);
        DUE.is("output(0)", x.output(0), -1);
    }

    private static void promise2() {
        DUE.by("Begins a function; variables and instructions that come are its.");
        FrameBackEnd x = new FrameBackEnd();
        x.function();
        DUE.is("variable(1)", x.variable(1), 0);
        DUE.is("variable(2)", x.variable(2), 1);
        DUE.is("op(15, 1, 0, 0)", x.op(15, 1, 0, 0), 0);
        DUE.is("function()", x.function(), 1);
        DUE.is("OUT of a variable of function 0", x.op(15, 0, 0, 0), -1);
        DUE.is("variable(3)", x.variable(3), 0);
        DUE.is("OUT of the ARRAY", x.op(15, 0, 0, 0), -1);
        DUE.is("op(10, 0, 0, 0)", x.op(10, 0, 0, 0), 0);
        DUE.by("Its number; -1, refused, if there are six.");
        for (int f = 2; f <= 5; f++) {
            DUE.is("function()", x.function(), f);
        }
        DUE.is("function()", x.function(), -1);
        DUE.is("variable(1) of function 5", x.variable(1), 0);
        DUE.is("function() again", x.function(), -1);
        DUE.is("variable(1) of function 5 again", x.variable(1), 1);
    }

    private static void promise3() {
        DUE.by("Gives the latest function a variable of a size (1 .. 8): its number.");
        for (int size = 1; size <= 8; size++) {
            FrameBackEnd x = new FrameBackEnd();
            x.function();
            DUE.is("variable(" + size + ")", x.variable(size), 0);
        }
        DUE.by("-1, refused, if there is no function, the size is not as said, or it has six.");
        FrameBackEnd none = new FrameBackEnd();
        DUE.is("variable(1) without a function", none.variable(1), -1);
        none.function();
        int[] wrong = {0, 9, -1, MIN, MAX};
        for (int size : wrong) {
            DUE.is("variable(" + size + ")", none.variable(size), -1);
        }
        for (int v = 0; v < 6; v++) {
            DUE.is("variable(8)", none.variable(8), v);
        }
        DUE.is("a seventh one", none.variable(1), -1);
        none.function();
        DUE.is("the first one of the next function", none.variable(1), 0);
    }

    /** In a function with a BYTE 0, a WIDE 1, an ARRAY 2. */
    private static int op(String line) {
        return Programs.op(Programs.given("FUNCTION 1 1 1 1", "GOTO 0", "FUNCTION 1 2 3"), line);
    }

    private static void promise4() {
        DUE.by("Gives the latest function an instruction; arguments in the order in which they are named above, those"
                + " not named are of no meaning. Its number.");
        String[] right = {"SET 1 65535 -7", "MOVE 0 1 -7", "ADD 0 1 1", "SUB 1 0 0", "AND 0 0 0", "OR 1 1 1",
            "XOR 0 1 0", "DOUBLE 1 -7 99", "LOAD 1 2 0", "STORE 2 0 1", "GOTO 0 -7 99", "ZERO 1 0 99", "BELOW 0 1 0",
            "CALL 0 0 1", "RETURN 1 -7 99", "OUT 0 -7 99"};
        for (String line : right) {
            DUE.is(line, op(line), 0);
        }
        DUE.by("a variable that it names is not one of the function, or not of the sort that is said");
        String[] wrong = {"SET 2 0", "SET 3 0", "SET -1 0", "MOVE 0 2", "MOVE 2 0", "ADD 0 0 2", "ADD 0 2 0",
            "ADD 2 0 0", "SUB 0 0 3", "AND 0 3 0", "OR 3 0 0", "XOR 0 0 -1", "DOUBLE 2", "DOUBLE 3", "LOAD 0 2 1",
            "LOAD 0 0 0", "LOAD 0 1 0", "LOAD 2 2 0", "LOAD 0 2 2", "LOAD 0 3 0", "STORE 2 1 0", "STORE 0 0 0",
            "STORE 1 0 0", "STORE 2 0 2", "STORE 2 2 0", "STORE 2 0 3", "ZERO 2 0", "ZERO 3 0", "BELOW 0 2 0",
            "BELOW 2 0 0", "BELOW 3 0 0", "BELOW 0 3 0", "CALL 0 2 0", "CALL 0 0 2", "CALL 0 3 0", "CALL 0 0 3",
            "RETURN 2", "RETURN 3", "OUT 2", "OUT 3", "OUT -1"};
        for (String line : wrong) {
            DUE.is(line, op(line), -1);
        }
        DUE.by("k is not 0 .. 65535");
        int[] constants = {-1, 65536, MIN, MAX};
        for (int k : constants) {
            DUE.is("SET 1 " + k, op("SET 1 " + k), -1);
        }
        DUE.is("SET 0 0", op("SET 0 0"), 0);
        DUE.by("(Targets and functions that are called may be any numbers here.)");
        int[] any = {-1, 6, 24, 60, MIN, MAX};
        for (int l : any) {
            DUE.is("GOTO " + l, op("GOTO " + l), 0);
            DUE.is("ZERO 0 " + l, op("ZERO 0 " + l), 0);
            DUE.is("BELOW 0 0 " + l, op("BELOW 0 0 " + l), 0);
            DUE.is("CALL " + l + " 0 0", op("CALL " + l + " 0 0"), 0);
        }
    }

    private static void promise4Limits() {
        DUE.by("-1, refused, if there is no function, op is not 0 .. 15");
        DUE.is("GOTO without a function", new FrameBackEnd().op(10, 0, 0, 0), -1);
        int[] ops = {-1, 16, MIN, MAX};
        for (int one : ops) {
            DUE.is("op(" + one + ", 0, 0, 0)", Programs.given("FUNCTION 1").op(one, 0, 0, 0), -1);
        }
        DUE.by("the function has 24 instructions, or there are 60");
        FrameBackEnd x = Programs.given(Programs.join(Programs.lines("FUNCTION 1"), Programs.times(23, "OUT 0")));
        DUE.is("the 24th", x.op(15, 0, 0, 0), 23);
        DUE.is("the 25th", x.op(15, 0, 0, 0), -1);
        Programs.give(x, Programs.join(Programs.lines("FUNCTION 1"), Programs.times(20, "OUT 0"),
                Programs.lines("FUNCTION 1"), Programs.times(15, "OUT 0")));
        DUE.is("the 60th of all", x.op(15, 0, 0, 0), 15);
        DUE.is("the 61st of all", x.op(15, 0, 0, 0), -1);
        x.function();
        DUE.is("in another function", x.op(15, 0, 0, 0), -1);
    }

    private static int compile(String... lines) {
        return Programs.given(lines).compile();
    }

    private static void promise5() {
        DUE.by("Makes the code, in place of what was there, and there is no run: 0.");
        FrameBackEnd x = Programs.started(TWO);
        DUE.is("compile() again", x.compile(), 0);
        noRun(x);
        DUE.is("length()", x.length(), 76);
        DUE.by("1 if there is no function, or one has no instructions or its last one is not GOTO or RETURN");
        DUE.is("no function", compile(), 1);
        DUE.is("no instruction", compile("FUNCTION 1"), 1);
        DUE.is("the last one is OUT", compile("FUNCTION 1", "RETURN 0", "OUT 0"), 1);
        DUE.is("the last one is GOTO", compile("FUNCTION 1", "GOTO 0"), 0);
        DUE.is("the last one is RETURN", compile("FUNCTION 1", "RETURN 0"), 0);
        DUE.is("a second one without instructions", compile("FUNCTION 1", "RETURN 0", "FUNCTION 1"), 1);
        DUE.by("2 if a target is no instruction of its function");
        DUE.is("a target behind the last", compile("FUNCTION 1", "OUT 0", "GOTO 2"), 2);
        DUE.is("a target before the first", compile("FUNCTION 1", "BELOW 0 0 -1", "GOTO 0"), 2);
        DUE.is("a target in another one", compile("FUNCTION 1", "GOTO 1", "FUNCTION 1", "OUT 0", "GOTO 0"), 2);
        DUE.by("3 if a function that is called is not there");
        DUE.is("function 1", compile("FUNCTION 1", "CALL 1 0 0", "GOTO 0"), 3);
        DUE.is("function -1", compile("FUNCTION 1", "CALL -1 0 0", "GOTO 0"), 3);
        DUE.by("4 if a function can come to call itself, in one or more steps");
        DUE.is("in one", compile("FUNCTION 1", "CALL 0 0 0", "GOTO 0"), 4);
        DUE.is("in two", compile("FUNCTION 1", "CALL 1 0 0", "GOTO 0", "FUNCTION 1", "CALL 0 0 0", "GOTO 0"), 4);
        DUE.is("in three", compile("FUNCTION 1", "GOTO 0", "FUNCTION 1", "CALL 2 0 0", "GOTO 0",
                "FUNCTION 1", "CALL 3 0 0", "GOTO 0", "FUNCTION 1", "CALL 1 0 0", "GOTO 0"), 4);
        DUE.by("5 if a frame ends above 120");
        String[] chain = {"FUNCTION 8 8 8 8 8 1", "CALL 1 5 5", "GOTO 0",
            "FUNCTION 8 8 8 8 8 1", "CALL 2 5 5", "GOTO 0"};
        DUE.is("at 120", compile(Programs.join(chain, Programs.lines("FUNCTION 8 8 8 8 6", "GOTO 0"))), 0);
        DUE.is("at 121", compile(Programs.join(chain, Programs.lines("FUNCTION 8 8 8 8 7", "GOTO 0"))), 5);
        DUE.by("6 if the code has more than 500 bytes");
        DUE.is("500 bytes", compile(ofBytes(500)), 0);
        DUE.is("501 bytes", compile(ofBytes(501)), 6);
    }

    /** Two functions of 18 ADDs (13 bytes each) and a GOTO (3), and a third one for the rest. */
    private static String[] ofBytes(int bytes) {
        String[] lines = new String[0];
        for (int f = 0; f < 2; f++) {
            lines = Programs.join(lines, Programs.lines("FUNCTION 1 2"), Programs.times(18, "ADD 1 1 1"),
                    Programs.lines("GOTO 0"));
        }
        return Programs.join(lines, Programs.lines("FUNCTION 1 2"), Programs.fill(bytes - 2 * 237 - 3),
                Programs.lines("GOTO 0"));
    }

    private static void promise5Order() {
        DUE.by("Otherwise there is no code and no run, and the answer is the first of these that holds");
        DUE.is("1 and 2", compile("FUNCTION 1", "GOTO 9", "FUNCTION 1"), 1);
        DUE.is("2 and 3", compile("FUNCTION 1", "CALL 9 0 0", "GOTO 9"), 2);
        DUE.is("3 and 4", compile("FUNCTION 1", "CALL 0 0 0", "CALL 9 0 0", "GOTO 0"), 3);
        DUE.is("4 and 5", compile("FUNCTION 8 8 8 8 8 1", "CALL 1 5 5", "GOTO 0", "FUNCTION 8 8 8 8 8 1", "CALL 2 5 5",
                "CALL 1 5 5", "GOTO 0", "FUNCTION 8 8 8 8 8 1", "GOTO 0"), 4);
        FrameBackEnd x = Programs.started("FUNCTION 1", "OUT 0", "GOTO 0");
        x.run(5);
        Programs.op(x, "GOTO 9");
        DUE.is("compile()", x.compile(), 2);
        noCode(x);
        noRun(x);
    }

    private static void promise6() {
        DUE.by("How many bytes the code has; 0 if there is none.");
        FrameBackEnd x = Programs.given("FUNCTION 2 1", "SET 0 1", "GOTO 0");
        DUE.is("length() before compile()", x.length(), 0);
        x.compile();
        DUE.is("length()", x.length(), 11);
        x.start();
        DUE.is("length() in a run", x.length(), 11);
        x.function();
        DUE.is("length() behind function()", x.length(), 0);
        DUE.is("length() of two functions", Programs.compiled(TWO).length(), 76);
    }

    private static void promise7() {
        DUE.by("Byte i of the code (0 .. 255); -1 if there is none.");
        int[] bytes = {1, 232, 10, 0, 1, 3, 10, 1,
            2, 0, 10, 3, 2, 1, 10, 4, 159, 46, 0, 3, 126, 0, 10, 0, 3, 127, 0, 10, 1,
            2, 0, 168, 2, 1, 168,
            2, 2, 11, 126, 0, 1, 0, 11, 127, 0, 160,
            96, 2, 3, 18, 5, 10, 3, 2, 4, 17, 0, 10, 4,
            2, 3, 168, 2, 4, 168,
            2, 3, 11, 126, 0, 2, 4, 11, 127, 0, 160};
        FrameBackEnd x = Programs.compiled(TWO);
        for (int i = 0; i < bytes.length; i++) {
            DUE.is("code(" + i + ")", x.code(i), bytes[i]);
        }
        int[] none = {-1, x.length(), 500, MIN, MAX};
        for (int i : none) {
            DUE.is("code(" + i + ")", x.code(i), -1);
        }
        DUE.is("the last one, RTS", x.code(x.length() - 1), 160);
        DUE.is("without code", Programs.given(TWO).code(0), -1);
    }

    private static void promise8() {
        DUE.by("How many branches of the code are long; 0 if there is no code.");
        String[] far = Programs.join(Programs.lines("FUNCTION 1 2", "ZERO 0 12", "BELOW 0 0 12"),
                Programs.times(10, "ADD 1 1 1"), Programs.lines("BELOW 0 0 2", "ZERO 0 13", "RETURN 0"));
        FrameBackEnd x = Programs.given(far);
        DUE.is("longs() before compile()", x.longs(), 0);
        x.compile();
        DUE.is("longs(), two ahead and one back, and one that reaches", x.longs(), 3);
        x.variable(1);
        DUE.is("longs() behind variable()", x.longs(), 0);
        DUE.is("longs() of none", Programs.compiled(TWO).longs(), 0);
        DUE.is("the BCC of a LOAD is none", Programs.compiled("FUNCTION 3 1", "LOAD 1 0 1", "GOTO 0").longs(), 0);
    }

    private static void promise9() {
        DUE.by("The base of a function's frame; -1 if there is no code or no such function.");
        FrameBackEnd x = Programs.given(TWO);
        DUE.is("base(0) before compile()", x.base(0), -1);
        x.compile();
        DUE.is("base(0)", x.base(0), 0);
        DUE.is("base(1)", x.base(1), 3);
        int[] none = {-1, 2, 6, MIN, MAX};
        for (int f : none) {
            DUE.is("base(" + f + ")", x.base(f), -1);
        }
        Programs.op(x, "GOTO 0");
        DUE.is("base(1) behind op()", x.base(1), -1);
    }

    private static void promise10() {
        DUE.by("Where the code of instruction i of function f begins; -1 if there is no code or no such instruction.");
        FrameBackEnd x = Programs.given(TWO);
        DUE.is("address(0, 0) before compile()", x.address(0, 0), -1);
        x.compile();
        int[][] places = {{0, 8, 29, 35}, {46, 59, 65}};
        for (int f = 0; f < 2; f++) {
            for (int i = 0; i < places[f].length; i++) {
                DUE.is("address(" + f + ", " + i + ")", x.address(f, i), places[f][i]);
            }
        }
        int[][] none = {{0, 4}, {0, -1}, {1, 3}, {2, 0}, {-1, 0}, {0, 24}, {MIN, 0}, {MAX, 0}, {0, MIN}, {0, MAX}};
        for (int[] one : none) {
            DUE.is("address(" + one[0] + ", " + one[1] + ")", x.address(one[0], one[1]), -1);
        }
    }

    private static void promise11() {
        DUE.by("Begins a run, in place of one that there was: all data are 0, nothing is put out, the first instruction"
                + " is that of function 0.");
        FrameBackEnd x = Programs.started("FUNCTION 1 3 2", "STORE 1 0 0", "SET 0 2", "SET 2 4660", "OUT 2",
                "STORE 1 0 2", "GOTO 0");
        x.run(5);
        DUE.is("byte 2 of the ARRAY", x.value(1, 2), 52);
        DUE.is("start()", x.start(), true);
        int[][] all = {{0, 0}, {1, 0}, {1, 1}, {1, 2}, {2, 0}, {2, 1}};
        for (int[] one : all) {
            DUE.is("value(" + one[0] + ", " + one[1] + ")", x.value(one[0], one[1]), 0);
        }
        DUE.is("output(-1)", x.output(-1), 0);
        DUE.is("output(0)", x.output(0), -1);
        DUE.is("next()", x.next(), 0);
        DUE.is("spent()", x.spent(), 0);
        DUE.is("depth()", x.depth(), 1);
        DUE.is("state()", x.state(), 0);
        DUE.by("False, refused, if there is no code.");
        DUE.is("start() without code", Programs.given(TWO).start(), false);
    }

    private static void promise12() {
        DUE.by("Does n instructions of the program (not of the processor), fewer if it ends or there is a FAULT: how"
                + " many were done");
        FrameBackEnd x = Programs.started(TWO);
        DUE.is("run(0)", x.run(0), 0);
        DUE.is("run(1)", x.run(1), 1);
        DUE.is("run(3)", x.run(3), 3);
        DUE.is("run(1000), of which three are left", x.run(1000), 3);
        DUE.is("run(1) behind the end", x.run(1), 0);
        DUE.is("run(1000) without an end", Programs.started("FUNCTION", "GOTO 0").run(1000), 1000);
        DUE.by("-1, refused, if there is no run or n is not 0 .. 1000.");
        int[] wrong = {-1, 1001, MIN, MAX};
        for (int n : wrong) {
            DUE.is("run(" + n + ")", x.run(n), -1);
        }
        DUE.is("run(1) without a run", Programs.compiled(TWO).run(1), -1);
        DUE.is("run(0) without a run", Programs.compiled(TWO).run(0), -1);
    }

    private static void promise12Counts() {
        DUE.by("RETURN is one, with what the code of the CALL has behind its JSR; CALL is one, with what stands before"
                + " that and the JSR; those of the function between them are others");
        int[] nexts = {0, 1, 24, 25, 26, 2, 3, -1};
        int[] spents = {0, 4, 9, 16, 20, 29, 33, 38};
        FrameBackEnd x = Programs.started(TWO);
        for (int done = 0; done < nexts.length; done++) {
            DUE.is("next() after " + done, x.next(), nexts[done]);
            DUE.is("spent() after " + done, x.spent(), spents[done]);
            DUE.is("run(1) after " + done, x.run(1), done < nexts.length - 1 ? 1 : 0);
        }
        DUE.by("the one with the FAULT counts");
        FrameBackEnd fault = Programs.started("FUNCTION 3 1", "SET 1 3", "STORE 0 1 1", "GOTO 0");
        DUE.is("run(1000)", fault.run(1000), 2);
        DUE.is("run(1000) again", fault.run(1000), 0);
    }

    private static void promise13() {
        DUE.by("0 if the run goes on, 1 if it ended, 2 after a FAULT; -1 if there is no run.");
        FrameBackEnd x = Programs.compiled("FUNCTION 3 1 1", "BELOW 2 1 2", "RETURN 1", "SET 1 3", "LOAD 1 0 1",
                "GOTO 0");
        DUE.is("state() before start()", x.state(), -1);
        x.start();
        DUE.is("state() at the beginning", x.state(), 0);
        x.run(1);
        DUE.is("state() before RETURN", x.state(), 0);
        x.run(1);
        DUE.is("state() behind RETURN", x.state(), 1);
        x.start();
        DUE.is("state() of the next run", x.state(), 0);
        FrameBackEnd y = Programs.started("FUNCTION 3 1", "SET 1 3", "LOAD 1 0 1", "GOTO 0");
        y.run(1);
        DUE.is("state() before the FAULT", y.state(), 0);
        y.run(1);
        DUE.is("state() after the FAULT", y.state(), 2);
        y.compile();
        DUE.is("state() behind compile()", y.state(), -1);
    }

    private static void promise14() {
        DUE.by("How many instructions of the processor were done since the start (a TRAP counts); 0 if there is"
                + " no run.");
        FrameBackEnd x = Programs.compiled("FUNCTION 3 1", "SET 1 3", "LOAD 1 0 1", "GOTO 0");
        DUE.is("spent() before start()", x.spent(), 0);
        x.start();
        DUE.is("spent() at the beginning", x.spent(), 0);
        x.run(1);
        DUE.is("spent(): LDA, STA", x.spent(), 2);
        x.run(1);
        DUE.is("spent(): LDX, CPX, BCC, TRAP", x.spent(), 6);
        x.run(1);
        DUE.is("spent() after the FAULT", x.spent(), 6);
        x.start();
        DUE.is("spent() of the next run", x.spent(), 0);
        FrameBackEnd right = Programs.started("FUNCTION 3 1", "LOAD 1 0 1", "GOTO 0");
        right.run(1);
        DUE.is("spent(): LDX, CPX, BCC, LDA, STA", right.spent(), 5);
        FrameBackEnd far = Programs.started(Programs.join(Programs.lines("FUNCTION 1 2", "ZERO 0 11"),
                Programs.times(10, "ADD 1 1 1"), Programs.lines("RETURN 0")));
        far.run(1);
        DUE.is("spent(): LDA, BNE, JMP", far.spent(), 3);
    }

    private static void promise15() {
        DUE.by("The function whose instruction is next, 24 times, plus that instruction's number; -1 if the run does"
                + " not go on or there is none.");
        FrameBackEnd x = Programs.compiled("FUNCTION 1", "OUT 0", "CALL 5 0 0", "RETURN 0", "FUNCTION", "GOTO 0",
                "FUNCTION", "GOTO 0", "FUNCTION", "GOTO 0", "FUNCTION", "GOTO 0", "FUNCTION 1", "OUT 0", "RETURN 0");
        DUE.is("next() before start()", x.next(), -1);
        x.start();
        int[] nexts = {0, 1, 120, 121, 2, -1};
        for (int done = 0; done < nexts.length; done++) {
            DUE.is("next() after " + done, x.next(), nexts[done]);
            x.run(1);
        }
        FrameBackEnd fault = Programs.started("FUNCTION 3 1", "SET 1 9", "LOAD 1 0 1", "GOTO 0");
        fault.run(2);
        DUE.is("next() after a FAULT", fault.next(), -1);
    }

    private static void promise16() {
        DUE.by("How many functions are active, the first one included; 0 if the run does not go on or there is none.");
        FrameBackEnd x = Programs.compiled("FUNCTION 1", "CALL 1 0 0", "CALL 2 0 0", "RETURN 0",
                "FUNCTION 1", "CALL 2 0 0", "RETURN 0", "FUNCTION 1", "RETURN 0");
        DUE.is("depth() before start()", x.depth(), 0);
        x.start();
        int[] depths = {1, 2, 3, 2, 1, 2, 1, 0};
        for (int done = 0; done < depths.length; done++) {
            DUE.is("depth() after " + done, x.depth(), depths[done]);
            x.run(1);
        }
        FrameBackEnd fault = Programs.started("FUNCTION 3 1", "SET 1 9", "LOAD 1 0 1", "GOTO 0");
        fault.run(2);
        DUE.is("depth() after a FAULT", fault.depth(), 0);
    }

    private static void promise17() {
        DUE.by("Byte i (from 0) of variable v of the function whose instruction is next, as it is in the data");
        FrameBackEnd x = Programs.started(TWO);
        x.run(1);
        DUE.is("value(0, 0)", x.value(0, 0), 232);
        DUE.is("value(0, 1)", x.value(0, 1), 3);
        x.run(1);
        DUE.is("value(0, 0) of function 1", x.value(0, 0), 232);
        DUE.is("value(1, 0) of function 1", x.value(1, 0), 0);
        DUE.by("-1 if there is no such byte or variable, or next() is -1.");
        int[][] none = {{0, 2}, {0, -1}, {1, 1}, {2, 0}, {-1, 0}, {6, 0}, {MIN, 0}, {MAX, 0}, {0, MIN}, {0, MAX}};
        for (int[] one : none) {
            DUE.is("value(" + one[0] + ", " + one[1] + ")", x.value(one[0], one[1]), -1);
        }
        x.run(1000);
        DUE.is("value(0, 0) behind the end", x.value(0, 0), -1);
        DUE.is("value(0, 0) without a run", Programs.compiled(TWO).value(0, 0), -1);
        FrameBackEnd fault = Programs.started("FUNCTION 3 1", "SET 1 9", "LOAD 1 0 1", "GOTO 0");
        fault.run(2);
        DUE.is("value(1, 0) after a FAULT", fault.value(1, 0), -1);
    }

    private static void promise18() {
        DUE.by("The byte that was put out k-th (from 0; the first 100 are kept); -1 if there is none.");
        FrameBackEnd x = Programs.started("FUNCTION 1 1", "SET 1 1", "OUT 0", "ADD 0 0 1", "GOTO 1");
        x.run(2);
        DUE.is("output(0)", x.output(0), 0);
        DUE.is("output(1)", x.output(1), -1);
        x.run(3 * 99);
        DUE.is("output(98)", x.output(98), 98);
        DUE.is("output(99)", x.output(99), 99);
        DUE.is("output(100)", x.output(100), -1);
        x.run(3);
        DUE.is("output(99), where there are 101", x.output(99), 99);
        DUE.is("output(100), where there are 101", x.output(100), -1);
        int[] none = {-2, MIN, MAX};
        for (int k : none) {
            DUE.is("output(" + k + ")", x.output(k), -1);
        }
        DUE.by("k = -1: how many were put out (0 if there is no run).");
        DUE.is("output(-1)", x.output(-1), 101);
        DUE.is("output(-1) without a run", Programs.compiled(TWO).output(-1), 0);
        FrameBackEnd end = Programs.started(TWO);
        end.run(1000);
        DUE.is("output(-1) behind the end", end.output(-1), 4);
        DUE.is("output(3) behind the end", end.output(3), 3);
    }
}
