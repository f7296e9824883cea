/**
 * "What it is" and "Terms", sentence by sentence in the order of the document, each with an example worked out by hand
 * from its words; bytes of code stand here as numbers.
 */
public final class TermsTest {
    private static final Due DUE = new Due("TermsTest");

    public static void main(String[] args) {
        whatItIs();
        program();
        scalarsAndData();
        frames();
        names();
        widths();
        setAndMove();
        sums();
        bits();
        arrays();
        jumps();
        callsAndReturns();
        output();
        processor();
        forms();
        parts();
        leftOut();
        leftOutAtTargets();
        longBranches();
        order();
        refusedAndAccepted();
        DUE.end();
    }

    /** Runs the lines of one function and then stays where it is, so that all variables can be asked. */
    private static FrameBackEnd done(String... lines) {
        int count = lines.length - 1;
        FrameBackEnd x = Programs.started(Programs.join(lines, Programs.lines("GOTO " + count)));
        x.run(count);
        DUE.is(String.join("; ", lines) + ": next()", x.next(), count);
        return x;
    }

    private static int wide(FrameBackEnd x, int v) {
        return x.value(v, 0) + 256 * x.value(v, 1);
    }

    private static void code(String what, FrameBackEnd x, int first, int... bytes) {
        for (int k = 0; k < bytes.length; k++) {
            DUE.is(what + ": code(" + (first + k) + ")", x.code(first + k), bytes[k]);
        }
    }

    private static void whatItIs() {
        DUE.by("functions which are never active together share them");
        FrameBackEnd shared = Programs.compiled("FUNCTION 3 1", "CALL 1 1 1", "CALL 2 1 1", "RETURN 1",
                "FUNCTION 1", "RETURN 0", "FUNCTION 2", "RETURN 0");
        DUE.is("base(1)", shared.base(1), 4);
        DUE.is("base(2)", shared.base(2), 4);
        DUE.by("An object is used for at most 512 calls after it has been made");
        FrameBackEnd x = new FrameBackEnd();
        for (int call = 1; call <= 511; call++) {
            x.state();
        }
        DUE.is("the 512th call", x.function(), 0);
    }

    private static void program() {
        DUE.by("A PROGRAM has FUNCTIONS 0 .. 5 (it begins with function 0).");
        FrameBackEnd six = new FrameBackEnd();
        for (int f = 0; f <= 5; f++) {
            DUE.is("function()", six.function(), f);
        }
        DUE.is("a seventh function()", six.function(), -1);
        FrameBackEnd begins = Programs.started("FUNCTION 1", "RETURN 0", "FUNCTION 1", "OUT 0", "RETURN 0");
        DUE.is("next() at the beginning", begins.next(), 0);
        DUE.by("A function has VARIABLES 0 .. 5: a BYTE (size 1), a WIDE (size 2, the low byte first) or an ARRAY");
        FrameBackEnd x = done("FUNCTION 1 2 3 8 4 5", "SET 0 7", "SET 1 258");
        DUE.is("a seventh variable", x.variable(1), -1);
        DUE.is("the low byte of 258", x.value(1, 0), 2);
        DUE.is("the high byte of 258", x.value(1, 1), 1);
        int[] sizes = {1, 2, 3, 8, 4, 5};
        for (int v = 0; v < sizes.length; v++) {
            DUE.is("the last byte of variable " + v, x.value(v, sizes[v] - 1) >= 0, true);
            DUE.is("a byte behind variable " + v, x.value(v, sizes[v]), -1);
        }
        DUE.by("INSTRUCTIONS 0, 1, .. , at most 24, in all functions together at most 60");
        FrameBackEnd full = new FrameBackEnd();
        int[] rooms = {24, 24, 12};
        for (int room : rooms) {
            full.function();
            for (int i = 0; i < room; i++) {
                DUE.is("op()", full.op(10, 0, 0, 0), i);
            }
            DUE.is("one more", full.op(10, 0, 0, 0), -1);
        }
    }

    private static void scalarsAndData() {
        DUE.by("BYTEs and WIDEs are SCALARS; their values are not negative.");
        FrameBackEnd x = done("FUNCTION 1 1 2 2", "SET 0 200", "SET 1 100", "SET 2 40000", "SET 3 30000",
                "BELOW 0 1 0", "BELOW 2 3 0", "BELOW 1 0 7", "BELOW 3 2 8");
        DUE.is("200 is not less than 100, nor 40000 than 30000", x.value(0, 0), 200);
        DUE.by("DATA are 128 bytes; the RESULT is a WIDE at the addresses 126 and 127.");
        FrameBackEnd last = Programs.compiled("FUNCTION 2", "RETURN 0");
        code("LDA 0, STA 126, LDA 1, STA 127, RTS", last, 0, 2, 0, 11, 126, 0, 2, 1, 11, 127, 0, 160, -1);
    }

    private static void frames() {
        DUE.by("The FRAME of a function are the sizes of its variables together, one behind the other in their order");
        FrameBackEnd x = Programs.compiled("FUNCTION 3 1 2 1", "OUT 1", "OUT 2", "OUT 3", "GOTO 0");
        code("LDA 3; LDA 4, LDA 5; LDA 6", x, 0, 2, 3, 168, 2, 4, 168, 2, 5, 168, 2, 6, 168);
        DUE.by("The base of function 0, and of each function that no CALL calls, is 0");
        FrameBackEnd alone = Programs.compiled("FUNCTION 8", "GOTO 0", "FUNCTION 8", "GOTO 0",
                "FUNCTION 1", "CALL 0 0 0", "GOTO 0");
        for (int f = 0; f < 3; f++) {
            DUE.is("base(" + f + ")", alone.base(f), 0);
        }
        DUE.by("that of another one is the greatest end (base + size of all variables) of the frames of the functions"
                + " that call it");
        FrameBackEnd y = Programs.compiled("FUNCTION 1 4", "CALL 1 0 0", "CALL 3 0 0", "GOTO 0",
                "FUNCTION 1 2", "CALL 2 0 0", "GOTO 0", "FUNCTION 2 2", "GOTO 0",
                "FUNCTION 1 6", "CALL 2 0 0", "GOTO 0");
        DUE.is("base(1)", y.base(1), 5);
        DUE.is("base(3)", y.base(3), 5);
        DUE.is("base(2), behind 3, which ends at 12, not behind 1, which ends at 8", y.base(2), 12);
    }

    private static void names() {
        DUE.by("a, b, c are variables of the same function, scalars unless said");
        FrameBackEnd x = Programs.given("FUNCTION 1 1 1", "GOTO 0", "FUNCTION 1 3");
        DUE.is("MOVE of a variable of another function", Programs.op(x, "MOVE 0 2"), -1);
        DUE.is("MOVE of an ARRAY", Programs.op(x, "MOVE 0 1"), -1);
        DUE.is("MOVE of its own", Programs.op(x, "MOVE 0 0"), 0);
        DUE.by("l the number of an instruction of the same function, which is a TARGET by that; f a function");
        Programs.op(x, "GOTO 1");
        DUE.is("compile()", x.compile(), 0);
        Programs.op(x, "GOTO 3");
        DUE.is("compile() with a target that is not there", x.compile(), 2);
        Programs.op(x, "CALL 2 0 0");
        Programs.op(x, "GOTO 0");
        DUE.is("compile() with a function that is not there", x.compile(), 3);
    }

    private static void widths() {
        DUE.by("What is wider than the variable that gets it loses its high byte; what is narrower gets 0 as high"
                + " byte.");
        FrameBackEnd x = done("FUNCTION 1 2 2", "SET 1 65535", "SET 2 4660", "MOVE 0 2", "MOVE 1 0");
        DUE.is("4660 in a BYTE", x.value(0, 0), 52);
        DUE.is("52 in a WIDE that was 65535", wide(x, 1), 52);
    }

    private static void setAndMove() {
        DUE.by("0 SET a k: a becomes k (0 .. 65535)");
        FrameBackEnd x = done("FUNCTION 2 1 2 2", "SET 0 65535", "SET 1 65535", "SET 2 0", "MOVE 3 0");
        DUE.is("SET of a WIDE", wide(x, 0), 65535);
        DUE.is("SET of a BYTE", x.value(1, 0), 255);
        DUE.is("SET to 0", wide(x, 2), 0);
        DUE.by("1 MOVE a b: a becomes b");
        DUE.is("MOVE", wide(x, 3), 65535);
    }

    private static void sums() {
        DUE.by("2 ADD a b c: a becomes b + c");
        FrameBackEnd x = done("FUNCTION 1 1 1 2 2 2", "SET 0 200", "SET 1 100", "SET 3 65500", "ADD 2 0 1",
                "ADD 4 0 1", "ADD 5 3 1");
        DUE.is("200 + 100 in a BYTE", x.value(2, 0), 44);
        DUE.is("200 + 100 in a WIDE", wide(x, 4), 300);
        DUE.is("65500 + 100 in a WIDE", wide(x, 5), 64);
        DUE.by("3 SUB a b c: a becomes b - c (both modulo 256 if a is a BYTE, else 65536)");
        FrameBackEnd y = done("FUNCTION 1 1 1 2 2 2", "SET 0 200", "SET 1 100", "SET 3 300", "SUB 2 1 0",
                "SUB 4 1 0", "SUB 5 3 0");
        DUE.is("100 - 200 in a BYTE", y.value(2, 0), 156);
        DUE.is("100 - 200 in a WIDE", wide(y, 4), 65436);
        DUE.is("300 - 200 in a WIDE", wide(y, 5), 100);
        DUE.by("7 DOUBLE a: a becomes a + a (modulo likewise)");
        FrameBackEnd z = done("FUNCTION 1 2 2", "SET 0 200", "SET 1 40000", "SET 2 200", "DOUBLE 0", "DOUBLE 1",
                "DOUBLE 2");
        DUE.is("200 + 200 in a BYTE", z.value(0, 0), 144);
        DUE.is("40000 + 40000 in a WIDE", wide(z, 1), 14464);
        DUE.is("200 + 200 in a WIDE", wide(z, 2), 400);
    }

    private static void bits() {
        DUE.by("4 AND a b c   5 OR a b c   6 XOR a b c: bit by bit");
        FrameBackEnd x = done("FUNCTION 2 1 2 2 2 1", "SET 0 " + 0xa5c3, "SET 1 " + 0x5a, "AND 2 0 1", "OR 3 0 1",
                "XOR 4 0 1", "XOR 5 0 1");
        DUE.is("AND", wide(x, 2), 0x42);
        DUE.is("OR", wide(x, 3), 0xa5db);
        DUE.is("XOR", wide(x, 4), 0xa599);
        DUE.is("XOR in a BYTE", x.value(5, 0), 0x99);
    }

    private static void arrays() {
        DUE.by("8 LOAD a t b, t an ARRAY, b a BYTE: a becomes byte b of t (from 0)");
        FrameBackEnd x = done("FUNCTION 2 1 4 2 1", "SET 0 4660", "SET 3 65535", "SET 1 2", "STORE 2 1 0",
                "LOAD 3 2 1", "SET 1 3", "LOAD 4 2 1");
        DUE.is("LOAD to a WIDE", wide(x, 3), 52);
        DUE.is("LOAD of another byte", x.value(4, 0), 0);
        DUE.by("9 STORE t b c, likewise: byte b of t becomes the low byte of c");
        int[] stored = {0, 0, 52, 0};
        for (int i = 0; i < stored.length; i++) {
            DUE.is("byte " + i, x.value(2, i), stored[i]);
        }
        DUE.by("both FAULT if b is not less than the size of t");
        for (String line : Programs.lines("LOAD 1 0 1", "STORE 0 1 1")) {
            for (int size = 3; size <= 8; size++) {
                DUE.is(line + " with the last index", stateAfter(line, size, size - 1), 0);
                DUE.is(line + " with the size as index", stateAfter(line, size, size), 2);
                DUE.is(line + " with 255", stateAfter(line, size, 255), 2);
            }
        }
    }

    private static int stateAfter(String line, int size, int index) {
        FrameBackEnd x = Programs.started("FUNCTION " + size + " 1", "SET 1 " + index, line, "GOTO 0");
        x.run(2);
        return x.state();
    }

    private static int nextAfter(int n, String... lines) {
        FrameBackEnd x = Programs.started(lines);
        DUE.is("run(" + n + ")", x.run(n), n);
        return x.next();
    }

    private static void jumps() {
        DUE.by("10 GOTO l");
        DUE.is("GOTO 2", nextAfter(1, "FUNCTION 1", "GOTO 2", "OUT 0", "GOTO 1"), 2);
        DUE.by("11 ZERO a l: goes to l if a is 0");
        DUE.is("ZERO of 0", nextAfter(1, "FUNCTION 2", "ZERO 0 2", "OUT 0", "GOTO 1"), 2);
        DUE.is("ZERO of 256", nextAfter(2, "FUNCTION 2", "SET 0 256", "ZERO 0 0", "GOTO 1"), 2);
        DUE.is("ZERO of 1", nextAfter(2, "FUNCTION 2", "SET 0 1", "ZERO 0 0", "GOTO 1"), 2);
        DUE.is("ZERO of a BYTE set to 256", nextAfter(2, "FUNCTION 1", "SET 0 256", "ZERO 0 0", "GOTO 1"), 0);
        DUE.by("12 BELOW a b l: goes to l if a is less than b");
        int[][] pairs = {{0, 1, 1}, {1, 1, 0}, {2, 1, 0}, {255, 256, 1}, {256, 255, 0}, {511, 512, 1}, {512, 511, 0},
            {258, 513, 1}, {513, 258, 0}, {65535, 65535, 0}, {0, 65535, 1}};
        for (int[] pair : pairs) {
            DUE.is("BELOW of " + pair[0] + " and " + pair[1], nextAfter(3, "FUNCTION 2 2", "SET 0 " + pair[0],
                    "SET 1 " + pair[1], "BELOW 0 1 0", "GOTO 1"), pair[2] == 1 ? 0 : 3);
        }
        DUE.is("BELOW of a BYTE and a WIDE", nextAfter(3, "FUNCTION 1 2", "SET 0 200", "SET 1 300", "BELOW 0 1 0",
                "GOTO 1"), 0);
        DUE.is("BELOW of a WIDE and a BYTE", nextAfter(3, "FUNCTION 1 2", "SET 0 200", "SET 1 300", "BELOW 1 0 0",
                "GOTO 1"), 3);
    }

    private static void callsAndReturns() {
        DUE.by("13 CALL f a b: variable 0 of f becomes a, if f has one and it is a scalar");
        String[] caller = {"FUNCTION 2 2", "SET 0 4660", "CALL 1 0 1", "GOTO 2"};
        FrameBackEnd narrow = Programs.started(Programs.join(caller, Programs.lines("FUNCTION 1 2", "GOTO 0")));
        narrow.run(2);
        DUE.is("a BYTE becomes 4660", narrow.value(0, 0), 52);
        DUE.is("the variable behind it", wide(narrow, 1), 0);
        FrameBackEnd array = Programs.started(Programs.join(caller, Programs.lines("FUNCTION 3 1", "GOTO 0")));
        array.run(2);
        DUE.is("an ARRAY stays", array.value(0, 0) + array.value(0, 1), 0);
        FrameBackEnd none = Programs.started(Programs.join(caller, Programs.lines("FUNCTION", "GOTO 0")));
        none.run(2);
        DUE.is("there is none", none.next(), 24);
        DUE.by("f is done; then b becomes the RESULT");
        FrameBackEnd x = Programs.started(Programs.join(caller, Programs.lines("FUNCTION 2", "DOUBLE 0", "RETURN 0")));
        DUE.is("run(4)", x.run(4), 4);
        DUE.is("b", wide(x, 1), 9320);
        DUE.is("a", wide(x, 0), 4660);
        DUE.by("14 RETURN a: the RESULT becomes a; the function that called goes on behind its CALL");
        DUE.is("next()", x.next(), 2);
        FrameBackEnd y = Programs.started("FUNCTION 2", "SET 0 65535", "CALL 1 0 0", "GOTO 2",
                "FUNCTION 1", "RETURN 0");
        y.run(3);
        DUE.is("a BYTE as the RESULT", wide(y, 0), 255);
        DUE.by("in function 0, where it was not called, the program ENDS");
        FrameBackEnd end = Programs.started("FUNCTION 1", "RETURN 0", "OUT 0", "GOTO 1");
        DUE.is("run(9)", end.run(9), 1);
        DUE.is("state()", end.state(), 1);
    }

    private static void output() {
        DUE.by("15 OUT a: the low byte of a is put out, then, if a is a WIDE, the high one");
        FrameBackEnd x = done("FUNCTION 1 2", "SET 0 9", "SET 1 4660", "OUT 0", "OUT 1", "OUT 0");
        int[] bytes = {9, 52, 18, 9};
        DUE.is("output(-1)", x.output(-1), bytes.length);
        for (int k = 0; k < bytes.length; k++) {
            DUE.is("output(" + k + ")", x.output(k), bytes[k]);
        }
    }

    /** Every instruction of the processor stands in one of these programs. */
    private static void processor() {
        DUE.by("the first byte is 8 * number + form");
        code("SET and MOVE: LDA, STA", Programs.compiled("FUNCTION 1 1", "SET 0 5", "MOVE 0 1", "GOTO 0"), 0,
                1, 5, 10, 0, 2, 1, 10, 0, 151, 0, 0);
        code("ADD: CLC, LDA, ADC, STA", Programs.compiled("FUNCTION 1 1", "ADD 0 1 0", "GOTO 0"), 0,
                96, 2, 1, 18, 0, 10, 0);
        code("SUB: SEC, LDA, SBC, STA", Programs.compiled("FUNCTION 1 1", "SUB 0 1 0", "GOTO 0"), 0,
                104, 2, 1, 26, 0, 10, 0);
        code("AND", Programs.compiled("FUNCTION 1 1", "AND 0 1 0", "GOTO 0"), 0, 2, 1, 34, 0, 10, 0);
        code("OR: ORA", Programs.compiled("FUNCTION 1 1", "OR 0 1 0", "GOTO 0"), 0, 2, 1, 42, 0, 10, 0);
        code("XOR: EOR", Programs.compiled("FUNCTION 1 1", "XOR 0 1 0", "GOTO 0"), 0, 2, 1, 50, 0, 10, 0);
        code("DOUBLE: ASL, ROL", Programs.compiled("FUNCTION 2", "DOUBLE 0", "GOTO 0"), 0, 58, 0, 66, 1);
        code("LOAD: LDX, CPX, BCC, TRAP, LDA, STA", Programs.compiled("FUNCTION 3 1", "LOAD 1 0 1", "GOTO 0"), 0,
                74, 3, 89, 3, 134, 1, 176, 4, 0, 10, 3);
        code("ZERO: LDA, BEQ", Programs.compiled("FUNCTION 1", "ZERO 0 0", "GOTO 0"), 0, 2, 0, 118, 252);
        code("BELOW: LDA, CMP, BCC", Programs.compiled("FUNCTION 1", "BELOW 0 0 0", "GOTO 0"), 0,
                2, 0, 82, 0, 134, 250);
        code("CALL: LDA, STA, JSR, LDA, STA", Programs.compiled("FUNCTION 1", "CALL 1 0 0", "GOTO 0",
                "FUNCTION 1", "GOTO 0"), 0, 2, 0, 10, 1, 159, 15, 0, 3, 126, 0, 10, 0, 151, 0, 0, 151, 15, 0, -1);
        code("OUT: LDA, OUT", Programs.compiled("FUNCTION 1", "OUT 0", "RETURN 0"), 0, 2, 0, 168, 11, 126, 0, 1, 0, 11,
                127, 0, 160, -1);
    }

    private static void forms() {
        DUE.by("2 an address below 16, one byte   3 another address, two bytes, the second one 0");
        code("LDA 15, LDA 16", Programs.compiled("FUNCTION 8 7 2", "OUT 2", "GOTO 0"), 0, 2, 15, 168, 3, 16, 0, 168);
        DUE.by("4, 5 like 2, 3 and X is added");
        code("STA 15 with X", Programs.compiled("FUNCTION 8 6 1 3", "STORE 3 2 2", "GOTO 0"), 0,
                74, 14, 89, 3, 134, 1, 176, 2, 14, 12, 15);
        code("STA 16 with X", Programs.compiled("FUNCTION 8 7 1 3", "STORE 3 2 2", "GOTO 0"), 0,
                74, 15, 89, 3, 134, 1, 176, 2, 15, 13, 16, 0);
        DUE.by("6 a branch: one byte, how far it is from behind it to where it goes, -128 .. 127, as a byte");
        code("BEQ ahead", Programs.compiled("FUNCTION 1", "ZERO 0 2", "OUT 0", "GOTO 0"), 0, 2, 0, 118, 1, 168);
        DUE.by("7 an address in the code, two bytes, the low one first");
        FrameBackEnd x = Programs.compiled(Programs.join(Programs.lines("FUNCTION 8 8 2"),
                Programs.times(16, "ADD 2 2 2"), Programs.lines("GOTO 17", "GOTO 16")));
        code("JMP to 16 * 19 + 3", x, 304, 151, 307 - 256, 1, 151, 304 - 256, 1, -1);
        x.start();
        x.run(17);
        DUE.is("next() behind that JMP", x.next(), 17);
    }

    private static void parts() {
        DUE.by("PART i of a scalar v, written v.i, is its byte i (0 the low one); v.1 of a BYTE is the constant 0.");
        code("ADD of a BYTE and a WIDE", Programs.compiled("FUNCTION 1 2", "ADD 1 0 1", "GOTO 0"), 0,
                96, 2, 0, 18, 1, 10, 1, 1, 0, 18, 2, 10, 2);
        DUE.by("\"For i\" is for the parts that the first variable has as bytes (0; or 0 and 1)");
        code("ADD to a BYTE", Programs.compiled("FUNCTION 1 2", "ADD 0 1 1", "GOTO 0"), 0,
                96, 2, 1, 18, 1, 10, 0, 151, 0, 0);
    }

    /** How many bytes an instruction of function 0 has; there must be one behind it. */
    private static int sizeOf(int i, String... lines) {
        FrameBackEnd x = Programs.compiled(lines);
        return x.address(0, i + 1) - x.address(0, i);
    }

    private static void leftOut() {
        DUE.by("An LDA (without X) is LEFT OUT if A holds its byte already, as is known by HELD");
        DUE.is("OUT 0 behind OUT 0", sizeOf(1, "FUNCTION 1 1", "OUT 0", "OUT 0", "GOTO 0"), 1);
        DUE.is("OUT 1 behind OUT 0", sizeOf(1, "FUNCTION 1 1", "OUT 0", "OUT 1", "GOTO 0"), 3);
        DUE.by("behind ADC, SBC, AND, ORA, EOR, an LDA with X, and JSR");
        DUE.is("ZERO of a WIDE, whose ORA makes it nothing",
                sizeOf(2, "FUNCTION 1 1 2", "OUT 0", "ZERO 2 0", "OUT 0", "GOTO 0"), 3);
        DUE.is("CALL", sizeOf(2, "FUNCTION 1 1", "OUT 0", "CALL 1 0 1", "OUT 0", "GOTO 0", "FUNCTION", "GOTO 0"), 3);
        DUE.by("behind LDA or STA (without X) it is their constant or address");
        DUE.is("OUT 0 behind SET 0", sizeOf(1, "FUNCTION 1 1", "SET 0 5", "OUT 0", "GOTO 0"), 1);
        DUE.is("SET 1 5 behind SET 0 5", sizeOf(1, "FUNCTION 1 1", "SET 0 5", "SET 1 5", "GOTO 0"), 4);
        DUE.is("MOVE 1 0 behind ADD 0", sizeOf(1, "FUNCTION 1 1", "ADD 0 1 1", "MOVE 1 0", "GOTO 0"), 2);
        DUE.is("OUT 1 behind MOVE 0 1", sizeOf(1, "FUNCTION 1 1", "MOVE 0 1", "OUT 1", "GOTO 0"), 3);
        DUE.is("OUT 1 behind STORE of it, by STA with X",
                sizeOf(1, "FUNCTION 3 1", "STORE 0 1 1", "OUT 1", "GOTO 0"), 1);
        DUE.by("ASL and ROL of the address that is held make it nothing");
        DUE.is("OUT 0 behind DOUBLE 0", sizeOf(2, "FUNCTION 1 1", "OUT 0", "DOUBLE 0", "OUT 0", "GOTO 0"), 3);
        DUE.is("OUT 0 behind DOUBLE 1", sizeOf(2, "FUNCTION 1 1", "OUT 0", "DOUBLE 1", "OUT 0", "GOTO 0"), 1);
        DUE.by("Only the LDA of a ZERO with a BYTE is never left out.");
        DUE.is("ZERO 0 behind OUT 0", sizeOf(1, "FUNCTION 1", "OUT 0", "ZERO 0 0", "GOTO 0"), 4);
        DUE.is("OUT 0 behind that", sizeOf(2, "FUNCTION 1", "OUT 0", "ZERO 0 0", "OUT 0", "GOTO 0"), 1);
        DUE.is("ZERO of a WIDE that is held", sizeOf(1, "FUNCTION 3 1 2", "STORE 0 1 2", "ZERO 2 0", "GOTO 0"), 4);
    }

    private static void leftOutAtTargets() {
        DUE.by("HELD is nothing at the beginning of a function, at each TARGET");
        DUE.is("OUT 0 at a target", sizeOf(1, "FUNCTION 1 1", "OUT 0", "OUT 0", "GOTO 1"), 3);
        DUE.is("OUT 0 at a target of instruction 0", sizeOf(2, "FUNCTION 1", "GOTO 2", "OUT 0", "OUT 0", "GOTO 0"), 3);
        DUE.is("OUT 0 behind a target", sizeOf(2, "FUNCTION 1 1", "OUT 0", "OUT 0", "OUT 0", "GOTO 1"), 1);
        FrameBackEnd x = Programs.compiled("FUNCTION 1", "OUT 0", "GOTO 0", "FUNCTION 1", "OUT 0", "GOTO 0");
        DUE.is("OUT 0 at the beginning of function 1", x.address(1, 1) - x.address(1, 0), 3);
    }

    /** ZERO 0 over so many bytes to the RETURN behind them. */
    private static FrameBackEnd over(int bytes) {
        String[] filling = Programs.fill(bytes);
        return Programs.compiled(Programs.join(Programs.lines("FUNCTION 1 2", "ZERO 0 " + (1 + filling.length)),
                filling, Programs.lines("RETURN 0")));
    }

    /** So many bytes from 4 on, then a BELOW back to them: LDA, CMP and BCC, or BCS and JMP. */
    private static FrameBackEnd back(int bytes, boolean goes) {
        String[] filling = Programs.fill(bytes);
        int branch = 1 + filling.length;
        FrameBackEnd x = Programs.compiled(Programs.join(Programs.lines("FUNCTION 1 2 1 1", "SET 2 1"), filling,
                Programs.lines(goes ? "BELOW 3 2 1" : "BELOW 2 3 1", "RETURN 0")));
        goesTo(x, branch, goes ? 1 : branch + 1);
        return x;
    }

    private static void goesTo(FrameBackEnd x, int branch, int next) {
        x.start();
        x.run(branch + 1);
        DUE.is("next() behind the branch, which is instruction " + branch, x.next(), next);
    }

    private static void longBranches() {
        DUE.by("A BEQ or BCC to l is LONG if l lies further than a branch reaches");
        FrameBackEnd near = over(127);
        DUE.is("longs() over 127 bytes", near.longs(), 0);
        code("BEQ", near, 2, 118, 127);
        goesTo(near, 0, Programs.fill(127).length + 1);
        FrameBackEnd far = over(128);
        DUE.is("longs() over 128 bytes", far.longs(), 1);
        goesTo(far, 0, Programs.fill(128).length + 1);
        DUE.by("then BNE (BCS) behind the JMP, and JMP l stand in its place");
        code("BNE, JMP", far, 2, 126, 3, 151, 135, 0);
        DUE.is("address(0, 1)", far.address(0, 1), 7);
        boolean[] both = {true, false};
        for (boolean goes : both) {
            FrameBackEnd reached = back(122, goes);
            DUE.is("longs() 128 back", reached.longs(), 0);
            code("BCC", reached, 130, 134, 128);
            FrameBackEnd tooFar = back(123, goes);
            DUE.is("longs() 129 back", tooFar.longs(), 1);
            code("BCS, JMP", tooFar, 131, 142, 3, 151, 4, 0);
            DUE.is("longs() made twice", tooFar.compile() + tooFar.longs(), 1);
        }
        DUE.by("As few as possible are long.");
        FrameBackEnd x = Programs.compiled(Programs.join(Programs.lines("FUNCTION 1 2", "ZERO 0 2", "ZERO 0 12"),
                Programs.times(10, "ADD 1 1 1"), Programs.lines("RETURN 0")));
        DUE.is("longs() with one that reaches and one over 130 bytes", x.longs(), 1);
    }

    private static void order() {
        DUE.by("The code is that of the instructions of function 0, then of function 1, and so on, one behind the other"
                + " from address 0.");
        FrameBackEnd x = Programs.compiled("FUNCTION 1", "OUT 0", "GOTO 0", "FUNCTION 1", "GOTO 1", "GOTO 0",
                "FUNCTION 1", "GOTO 0");
        int[][] places = {{0, 0, 0}, {0, 1, 3}, {1, 0, 6}, {1, 1, 9}, {2, 0, 12}};
        for (int[] place : places) {
            DUE.is("address(" + place[0] + ", " + place[1] + ")", x.address(place[0], place[1]), place[2]);
        }
        code("OUT 0, GOTO 0; GOTO 1, GOTO 0; GOTO 0", x, 0, 2, 0, 168, 151, 0, 0, 151, 9, 0, 151, 6, 0, 151, 12, 0, -1);
    }

    private static void refusedAndAccepted() {
        DUE.by("A call that is refused changes nothing.");
        FrameBackEnd x = Programs.started("FUNCTION 1 3", "OUT 0", "GOTO 0");
        x.run(3);
        String before = Answers.of(x);
        DUE.is("variable(0)", x.variable(0), -1);
        DUE.is("op(16, 0, 0, 0)", x.op(16, 0, 0, 0), -1);
        DUE.is("op(15, 1, 0, 0)", x.op(15, 1, 0, 0), -1);
        DUE.is("run(-1)", x.run(-1), -1);
        DUE.is("all answers", Answers.of(x), before);
        DUE.by("An accepted call of function(), variable() or op() takes away the code and the run, if there are any.");
        String[] calls = {"function()", "variable(1)", "op(10, 0, 0, 0)"};
        for (int k = 0; k < calls.length; k++) {
            FrameBackEnd y = Programs.started("FUNCTION 1 3", "OUT 0", "GOTO 0");
            y.run(3);
            DUE.is(calls[k], k == 0 ? y.function() : k == 1 ? y.variable(1) : y.op(10, 0, 0, 0), k == 0 ? 1 : 2);
            DUE.is("length() behind " + calls[k], y.length(), 0);
            DUE.is("state() behind " + calls[k], y.state(), -1);
            DUE.is("output(-1) behind " + calls[k], y.output(-1), 0);
            DUE.is("start() behind " + calls[k], y.start(), false);
        }
    }
}
