/** What is wider or narrower than the variable that gets it, in each instruction that gives a value to one. */
public final class WidthEdgesTest {
    private static final Due DUE = new Due("WidthEdgesTest");
    private static final int[] VALUES = {0, 1, 127, 128, 255, 256, 257, 511, 32768, 65280, 65535};

    public static void main(String[] args) {
        DUE.by("What is wider than the variable that gets it loses its high byte; what is narrower gets 0 as high"
                + " byte.");
        sets();
        moves();
        bitByBit();
        loads();
        stores();
        parameters();
        parametersThatAreNone();
        results();
        puts();
        notNegative();
        DUE.end();
    }

    private static int wide(FrameBackEnd x, int v) {
        return x.value(v, 0) + 256 * x.value(v, 1);
    }

    /** BYTE 0 and WIDE 1, both full of ones before it. */
    private static FrameBackEnd after(String... lines) {
        FrameBackEnd x = Programs.started(Programs.join(Programs.lines("FUNCTION 1 2 1 2 3", "SET 0 255",
                "SET 1 65535"), lines, Programs.lines("RETURN 0")));
        x.run(2 + lines.length);
        return x;
    }

    private static void sets() {
        for (int k : VALUES) {
            FrameBackEnd x = after("SET 0 " + k, "SET 1 " + k);
            DUE.is("SET of a BYTE " + k, x.value(0, 0), k & 255);
            DUE.is("SET of a WIDE " + k, wide(x, 1), k);
        }
    }

    private static void moves() {
        for (int k : VALUES) {
            FrameBackEnd x = after("SET 2 " + k, "SET 3 " + k, "MOVE 0 3", "MOVE 1 2");
            DUE.is("a WIDE to a BYTE " + k, x.value(0, 0), k & 255);
            DUE.is("a BYTE to a WIDE " + k, wide(x, 1), k & 255);
            DUE.is("the WIDE stays", wide(x, 3), k);
            FrameBackEnd y = after("SET 2 " + k, "SET 3 " + k, "MOVE 0 2", "MOVE 1 3");
            DUE.is("a BYTE to a BYTE " + k, y.value(0, 0), k & 255);
            DUE.is("a WIDE to a WIDE " + k, wide(y, 1), k);
        }
    }

    private static void bitByBit() {
        for (int k : VALUES) {
            FrameBackEnd x = after("SET 2 255", "SET 3 " + k, "AND 1 2 3", "AND 0 3 3");
            DUE.is("AND of a BYTE and a WIDE " + k, wide(x, 1), k & 255);
            DUE.is("AND of WIDEs in a BYTE", x.value(0, 0), k & 255);
            FrameBackEnd y = after("SET 2 0", "SET 3 " + k, "OR 1 2 3", "XOR 0 3 2");
            DUE.is("OR of a BYTE and a WIDE " + k, wide(y, 1), k);
            DUE.is("XOR of a WIDE in a BYTE", y.value(0, 0), k & 255);
            FrameBackEnd z = after("SET 2 " + k, "OR 1 2 2");
            DUE.is("OR of BYTEs in a WIDE", wide(z, 1), k & 255);
        }
    }

    private static void loads() {
        for (int k : VALUES) {
            FrameBackEnd x = after("SET 2 2", "SET 3 " + k, "STORE 4 2 3", "LOAD 1 4 2", "LOAD 0 4 2");
            DUE.is("LOAD in a WIDE " + k, wide(x, 1), k & 255);
            DUE.is("LOAD in a BYTE", x.value(0, 0), k & 255);
        }
    }

    private static void stores() {
        DUE.by("byte b of t becomes the low byte of c");
        for (int k : VALUES) {
            FrameBackEnd x = after("SET 2 1", "SET 3 " + k, "STORE 4 2 3");
            DUE.is("STORE of a WIDE " + k, x.value(4, 1), k & 255);
            DUE.is("behind it", x.value(4, 2), 0);
            DUE.is("before it", x.value(4, 0), 0);
        }
        DUE.by("What is wider than the variable that gets it loses its high byte; what is narrower gets 0 as high"
                + " byte.");
    }

    /** Function 1 fills its parameter with ones before it ends, so that the second CALL finds them there. */
    private static void parameters() {
        for (int given = 1; given <= 2; given++) {
            for (int got = 1; got <= 2; got++) {
                for (int k : VALUES) {
                    FrameBackEnd x = Programs.started("FUNCTION " + given + " 1", "CALL 1 0 1", "SET 0 " + k,
                            "CALL 1 0 1", "RETURN 0", "FUNCTION " + got + " 2", "SET 0 65535", "SET 1 65535",
                            "RETURN 0");
                    x.run(6);
                    DUE.is("next()", x.next(), 24);
                    int narrow = Math.min(given, got) == 1 ? k & 255 : k;
                    DUE.is("size " + given + " to size " + got + " of " + k, x.value(0, 0), narrow & 255);
                    DUE.is("high byte", x.value(0, 1), got == 1 ? -1 : narrow >> 8);
                    DUE.is("the variable behind it", x.value(1, 0) + 256 * x.value(1, 1), 65535);
                }
            }
        }
    }

    private static void parametersThatAreNone() {
        DUE.by("variable 0 of f becomes a, if f has one and it is a scalar");
        for (int size = 1; size <= 8; size++) {
            FrameBackEnd x = Programs.started("FUNCTION 2", "SET 0 65535", "CALL 1 0 0", "RETURN 0",
                    "FUNCTION " + size, "GOTO 0");
            x.run(2);
            DUE.is("next()", x.next(), 24);
            DUE.is("value(0, 0) of size " + size, x.value(0, 0), size <= 2 ? 255 : 0);
            DUE.is("value(0, 1)", x.value(0, 1), size == 1 ? -1 : size == 2 ? 255 : 0);
            DUE.is("spent()", x.spent(), 4 + (size <= 2 ? 2 * size + 1 : 1));
        }
        FrameBackEnd none = Programs.started("FUNCTION 2", "SET 0 65535", "CALL 1 0 0", "RETURN 0", "FUNCTION",
                "GOTO 0");
        none.run(2);
        DUE.is("no variable 0", none.value(0, 0), -1);
        DUE.is("spent()", none.spent(), 5);
        DUE.by("What is wider than the variable that gets it loses its high byte; what is narrower gets 0 as high"
                + " byte.");
    }

    private static void results() {
        for (int given = 1; given <= 2; given++) {
            for (int k : VALUES) {
                FrameBackEnd x = Programs.started("FUNCTION 1 2 2", "SET 1 65535", "CALL 1 2 0", "CALL 1 2 1",
                        "RETURN 0", "FUNCTION 1 " + given, "SET 1 " + k, "RETURN 1");
                x.run(7);
                DUE.is("next()", x.next(), 3);
                DUE.is("RETURN of size " + given + " in a BYTE " + k, x.value(0, 0), k & 255);
                DUE.is("in a WIDE", wide(x, 1), given == 1 ? k & 255 : k);
            }
        }
    }

    private static void puts() {
        DUE.by("15 OUT a: the low byte of a is put out, then, if a is a WIDE, the high one");
        for (int k : VALUES) {
            FrameBackEnd x = after("SET 0 " + k, "SET 1 " + k, "OUT 0", "OUT 1");
            DUE.is("output(-1)", x.output(-1), 3);
            DUE.is("a BYTE " + k, x.output(0), k & 255);
            DUE.is("the low byte", x.output(1), k & 255);
            DUE.is("the high byte", x.output(2), k >> 8);
            DUE.is("output(3)", x.output(3), -1);
        }
    }

    private static void notNegative() {
        DUE.by("BYTEs and WIDEs are SCALARS; their values are not negative.");
        FrameBackEnd x = after("SUB 2 2 0", "SUB 3 3 0", "OUT 2", "OUT 3");
        DUE.is("0 - 255 in a BYTE", x.value(2, 0), 1);
        DUE.is("0 - 255 in a WIDE", wide(x, 3), 65281);
        DUE.is("its high byte, put out", x.output(2), 255);
        FrameBackEnd y = Programs.started("FUNCTION 1 2 1 2", "SET 0 255", "BELOW 2 0 3", "RETURN 0", "SET 1 65535",
                "BELOW 3 1 6", "RETURN 0", "GOTO 6");
        y.run(4);
        DUE.is("0 is below 255, and below 65535", y.next(), 6);
    }
}
