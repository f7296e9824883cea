/** Where frames begin and end: none, the least and the greatest; 120 and 121; the RESULT behind them. */
public final class FrameEdgesTest {
    private static final Due DUE = new Due("FrameEdgesTest");

    public static void main(String[] args) {
        endsAt120();
        emptyFrameAt120();
        greatestEnd();
        notCalled();
        functionZero();
        framesOfNothing();
        order();
        resultIsApart();
        lastBytes();
        shared();
        DUE.end();
    }

    private static int[] bases(FrameBackEnd x, int count) {
        int[] bases = new int[count];
        for (int f = 0; f < count; f++) {
            bases[f] = x.base(f);
        }
        return bases;
    }

    private static void isBases(String what, FrameBackEnd x, int... want) {
        DUE.is(what, java.util.Arrays.toString(bases(x, want.length)), java.util.Arrays.toString(want));
        DUE.is("base(" + want.length + ")", x.base(want.length), -1);
    }

    /** Frames of 41 and 41 bytes, so that 38 are left for the third one. */
    private static String[] chain(String sizes) {
        return Programs.lines("FUNCTION 1 8 8 8 8 8", "CALL 1 0 0", "RETURN 0",
                "FUNCTION 1 8 8 8 8 8", "CALL 2 0 0", "RETURN 0", "FUNCTION 1 " + sizes, "RETURN 0");
    }

    private static void endsAt120() {
        DUE.by("5 if a frame ends above 120");
        String[] fits = {"8 8 8 8 5", "8 8 8 7 6", "5 8 8 8 8", "8 8 8 8 4"};
        for (String sizes : fits) {
            FrameBackEnd x = Programs.given(chain(sizes));
            DUE.is("compile() with " + sizes, x.compile(), 0);
            isBases("bases", x, 0, 41, 82);
        }
        String[] ends = {"8 8 8 8 6", "8 8 8 7 7", "6 8 8 8 8", "8 8 8 8 8"};
        for (String sizes : ends) {
            FrameBackEnd x = Programs.given(chain(sizes));
            DUE.is("compile() with " + sizes, x.compile(), 5);
            DUE.is("base(0)", x.base(0), -1);
            DUE.is("length()", x.length(), 0);
        }
    }

    private static void emptyFrameAt120() {
        DUE.by("5 if a frame ends above 120");
        FrameBackEnd x = Programs.given(Programs.join(chain("8 8 8 8 5"), Programs.lines("CALL 3 0 0", "RETURN 0",
                "FUNCTION", "GOTO 0")));
        DUE.is("a function without variables", x.compile(), 0);
        isBases("its base", x, 0, 41, 82, 120);
        DUE.is("variable(1)", x.variable(1), 0);
        DUE.is("with one byte", x.compile(), 5);
    }

    private static void greatestEnd() {
        DUE.by("that of another one is the greatest end (base + size of all variables) of the frames of the functions"
                + " that call it");
        for (int small = 1; small <= 8; small++) {
            FrameBackEnd x = Programs.compiled("FUNCTION 1", "CALL 1 0 0", "CALL 2 0 0", "RETURN 0",
                    "FUNCTION 1 " + small, "CALL 3 0 0", "RETURN 0", "FUNCTION 1 4", "CALL 3 0 0", "RETURN 0",
                    "FUNCTION 1", "RETURN 0");
            isBases("callers of 5 and " + (1 + small), x, 0, 1, 1, 1 + Math.max(1 + small, 5));
        }
        FrameBackEnd deep = Programs.compiled("FUNCTION 1 7", "CALL 2 0 0", "CALL 1 0 0", "RETURN 0",
                "FUNCTION 1", "CALL 2 0 0", "RETURN 0", "FUNCTION 1", "RETURN 0");
        isBases("the small frame lies higher", deep, 0, 8, 9);
    }

    private static void notCalled() {
        DUE.by("The base of function 0, and of each function that no CALL calls, is 0");
        FrameBackEnd x = Programs.compiled("FUNCTION 1 8", "RETURN 0", "FUNCTION 1 8", "CALL 2 0 0", "RETURN 0",
                "FUNCTION 1", "RETURN 0");
        isBases("function 1 is not called, function 2 is", x, 0, 0, 9);
        FrameBackEnd full = Programs.given("FUNCTION 1 8 8 8 8 8", "GOTO 0", "FUNCTION 1 8 8 8 8 8", "GOTO 0",
                "FUNCTION 1 8 8 8 8 8", "GOTO 0", "FUNCTION 1 8 8 8 8 8", "GOTO 0");
        DUE.is("many great frames, none called", full.compile(), 0);
        isBases("bases", full, 0, 0, 0, 0);
        FrameBackEnd dead = Programs.compiled("FUNCTION 1 2", "GOTO 0", "CALL 1 0 0", "GOTO 0", "FUNCTION", "GOTO 0");
        isBases("a CALL that is never done", dead, 0, 3);
    }

    private static void functionZero() {
        DUE.by("The base of function 0, and of each function that no CALL calls, is 0");
        FrameBackEnd x = Programs.compiled("FUNCTION 1", "CALL 2 0 0", "RETURN 0",
                "FUNCTION 8 1", "CALL 0 1 1", "RETURN 1", "FUNCTION 1", "RETURN 0");
        isBases("function 0 is called by function 1", x, 0, 0, 1);
    }

    private static void framesOfNothing() {
        DUE.by("The FRAME of a function are the sizes of its variables together, one behind the other in their order,"
                + " from its BASE on.");
        FrameBackEnd x = Programs.compiled("FUNCTION 1 2", "CALL 1 0 0", "RETURN 0", "FUNCTION", "GOTO 0");
        isBases("a callee without variables", x, 0, 3);
        FrameBackEnd y = Programs.compiled("FUNCTION", "GOTO 0", "FUNCTION", "GOTO 0");
        isBases("no variables at all", y, 0, 0);
        FrameBackEnd z = Programs.compiled("FUNCTION 8 8 8 8 8 8", "GOTO 0");
        isBases("the greatest frame", z, 0);
    }

    /** Variables of many sizes, each of which must begin where the one before it ends. */
    private static void order() {
        DUE.by("one behind the other in their order, from its BASE on");
        FrameBackEnd x = Programs.compiled("FUNCTION 2 3 1 8 1 2", "OUT 0", "OUT 2", "OUT 4", "OUT 5", "GOTO 0");
        DUE.is("code", Bytes.of(x).toString(), Bytes.of("LDA 0", "OUT", "LDA 1", "OUT", "LDA 5", "OUT", "LDA 14", "OUT",
                "LDA 15", "OUT", "LDA 16", "OUT", "JMP 0").toString());
        FrameBackEnd late = Programs.given("FUNCTION 3", "GOTO 0");
        late.variable(1);
        Programs.give(late, "OUT 1", "GOTO 0");
        late.compile();
        DUE.is("a variable behind an instruction", late.code(4), 3);
    }

    private static void resultIsApart() {
        DUE.by("DATA are 128 bytes; the RESULT is a WIDE at the addresses 126 and 127.");
        FrameBackEnd x = Programs.started("FUNCTION 1 8 8 8 8 8", "CALL 1 0 0", "OUT 0", "RETURN 0",
                "FUNCTION 1 8 8 8 8 8", "SET 0 9", "CALL 2 0 0", "OUT 0", "RETURN 0",
                "FUNCTION 2 8 8 8 8 4", "SET 0 65535", "RETURN 0");
        DUE.is("the last frame ends at 120", x.base(2), 82);
        x.run(4);
        DUE.is("value(0, 1) before RETURN", x.value(0, 1), 255);
        x.run(1000);
        DUE.is("the low byte of the RESULT", x.output(0), 255);
        DUE.is("it came back twice", x.output(1), 255);
    }

    /** The last byte that a frame can have is 119: a WIDE at 118, an ARRAY from 112 on. */
    private static void lastBytes() {
        DUE.by("5 if a frame ends above 120");
        FrameBackEnd wide = Programs.started(Programs.join(Programs.lines("FUNCTION 1 8 8 8 8 8", "CALL 1 0 0",
                "RETURN 0", "FUNCTION 1 8 8 8 8 8", "CALL 2 0 0", "RETURN 0"),
                Programs.lines("FUNCTION 8 8 8 8 4 2", "SET 5 4660", "DOUBLE 5", "OUT 5", "RETURN 5")));
        wide.run(4);
        DUE.is("DOUBLE at 118 and 119", wide.code(wide.address(2, 1) + 1), 118);
        DUE.is("its high byte", wide.code(wide.address(2, 1) + 4), 119);
        DUE.is("value(5, 0)", wide.value(5, 0), 104);
        DUE.is("value(5, 1)", wide.value(5, 1), 36);
        FrameBackEnd array = Programs.started(Programs.join(Programs.lines("FUNCTION 1 8 8 8 8 8", "CALL 1 0 0",
                "RETURN 0", "FUNCTION 1 8 8 8 8 8", "CALL 2 0 0", "RETURN 0"),
                Programs.lines("FUNCTION 1 8 8 8 5 8", "SET 0 7", "STORE 5 0 0", "LOAD 0 5 0", "RETURN 0")));
        array.run(4);
        DUE.is("the last byte of the ARRAY at 112", array.value(5, 7), 7);
        DUE.is("the one before it", array.value(5, 6), 0);
        DUE.is("run(1)", array.run(1), 1);
        DUE.is("LOAD found it", array.value(0, 0), 7);
    }

    private static void shared() {
        DUE.by("functions which are never active together share them");
        FrameBackEnd x = Programs.started("FUNCTION 1", "CALL 1 0 0", "CALL 2 0 0", "RETURN 0",
                "FUNCTION 3 2", "SET 1 65535", "RETURN 1", "FUNCTION 3 2", "RETURN 1");
        isBases("both begin at 1", x, 0, 1, 1);
        x.run(4);
        DUE.is("next()", x.next(), 48);
        DUE.is("what function 1 left", x.value(1, 1), 255);
    }
}
