/** Sums, differences and doublings that wrap around, or just don't, in all widths. */
public final class WrapEdgesTest {
    private static final Due DUE = new Due("WrapEdgesTest");
    private static final int[] EDGES = {0, 1, 2, 127, 128, 254, 255, 256, 257, 32767, 32768, 65279, 65280, 65534,
        65535};
    private static final int[] SIZES = {1, 1, 2, 2};

    public static void main(String[] args) {
        sumsOfBytes();
        sumsOfWides();
        differences();
        doublings();
        carryIsLeftBehind();
        carriesBetweenBytes();
        everyWidth();
        everyByte();
        DUE.end();
    }

    private static int valueOf(FrameBackEnd x, int v) {
        return x.value(v, 0) + (SIZES[v] == 2 ? 256 * x.value(v, 1) : 0);
    }

    /** BYTEs 0 and 1, WIDEs 2 and 3. */
    private static void is(int v, int want, String... lines) {
        FrameBackEnd x = Programs.started(Programs.join(Programs.lines("FUNCTION 1 1 2 2"), lines,
                Programs.lines("GOTO 0")));
        DUE.is("run", x.run(lines.length), lines.length);
        DUE.is(String.join("; ", lines), valueOf(x, v), want);
    }

    private static void sumsOfBytes() {
        DUE.by("2 ADD a b c: a becomes b + c .. (both modulo 256 if a is a BYTE, else 65536)");
        is(0, 255, "SET 0 254", "SET 1 1", "ADD 0 0 1");
        is(0, 0, "SET 0 255", "SET 1 1", "ADD 0 0 1");
        is(0, 254, "SET 0 255", "SET 1 255", "ADD 0 0 1");
        is(0, 0, "SET 0 128", "ADD 0 0 0");
        is(2, 255, "SET 0 254", "SET 1 1", "ADD 2 0 1");
        is(2, 256, "SET 0 255", "SET 1 1", "ADD 2 0 1");
        is(2, 510, "SET 0 255", "SET 1 255", "ADD 2 0 1");
    }

    private static void sumsOfWides() {
        DUE.by("2 ADD a b c: a becomes b + c .. (both modulo 256 if a is a BYTE, else 65536)");
        is(2, 65535, "SET 2 65534", "SET 1 1", "ADD 2 2 1");
        is(2, 0, "SET 2 65535", "SET 1 1", "ADD 2 2 1");
        is(2, 65534, "SET 2 65535", "SET 3 65535", "ADD 2 2 3");
        is(2, 0, "SET 2 32768", "ADD 2 2 2");
        is(2, 65535, "SET 2 32768", "SET 3 32767", "ADD 2 2 3");
        is(2, 256, "SET 2 255", "SET 1 1", "ADD 2 2 1");
        is(0, 0, "SET 2 65535", "SET 1 1", "ADD 0 2 1");
        is(0, 255, "SET 2 65280", "SET 1 255", "ADD 0 2 1");
    }

    private static void differences() {
        DUE.by("3 SUB a b c: a becomes b - c (both modulo 256 if a is a BYTE, else 65536)");
        is(0, 0, "SET 0 1", "SET 1 1", "SUB 0 0 1");
        is(0, 255, "SET 1 1", "SUB 0 0 1");
        is(0, 1, "SET 1 255", "SUB 0 0 1");
        is(0, 255, "SET 2 256", "SET 1 1", "SUB 0 2 1");
        is(2, 0, "SET 2 1", "SET 1 1", "SUB 2 2 1");
        is(2, 65535, "SET 1 1", "SUB 2 2 1");
        is(2, 65535, "SET 1 1", "SUB 2 0 1");
        is(2, 1, "SET 3 65535", "SUB 2 2 3");
        is(2, 255, "SET 2 256", "SET 1 1", "SUB 2 2 1");
        is(2, 65280, "SET 3 256", "SUB 2 2 3");
        is(2, 65281, "SET 1 255", "SUB 2 2 1");
    }

    private static void doublings() {
        DUE.by("7 DOUBLE a: a becomes a + a (modulo likewise)");
        for (int k = 0; k < 256; k++) {
            is(0, 2 * k % 256, "SET 0 " + k, "DOUBLE 0");
        }
        for (int k : EDGES) {
            is(2, 2 * k % 65536, "SET 2 " + k, "DOUBLE 2");
        }
        is(0, 0, Programs.join(Programs.lines("SET 0 255"), Programs.times(8, "DOUBLE 0")));
        is(0, 128, Programs.join(Programs.lines("SET 0 255"), Programs.times(7, "DOUBLE 0")));
        is(2, 0, Programs.join(Programs.lines("SET 2 65535"), Programs.times(16, "DOUBLE 2")));
        is(2, 32768, Programs.join(Programs.lines("SET 2 65535"), Programs.times(15, "DOUBLE 2")));
    }

    /** Each of the first ones leaves a carry or none; what comes behind it must not feel it. */
    private static void carryIsLeftBehind() {
        DUE.by("ADD: CLC, for i: LDA b.i, ADC c.i, STA a.i      SUB: SEC, for i: LDA b.i, SBC c.i, STA a.i");
        String[] before = {"ADD 0 0 0", "ADD 2 2 2", "SUB 1 1 0", "SUB 3 3 0", "SUB 0 0 0", "DOUBLE 0", "DOUBLE 2",
            "BELOW 0 0 3", "BELOW 1 0 3"};
        for (String first : before) {
            String[] start = {"SET 0 255", "SET 2 65535", first};
            is(1, 2, Programs.join(start, Programs.lines("SET 1 1", "ADD 1 1 1")));
            is(3, 2, Programs.join(start, Programs.lines("SET 3 1", "ADD 3 3 3")));
            is(1, 0, Programs.join(start, Programs.lines("SET 1 1", "SUB 1 1 1")));
            is(3, 0, Programs.join(start, Programs.lines("SET 3 1", "SUB 3 3 3")));
            is(1, 2, Programs.join(start, Programs.lines("SET 1 1", "DOUBLE 1")));
            is(3, 2, Programs.join(start, Programs.lines("SET 3 1", "DOUBLE 3")));
        }
    }

    private static void carriesBetweenBytes() {
        DUE.by("8 ROL m: m becomes 2 * m + C, C likewise");
        is(2, 256, "SET 2 128", "DOUBLE 2");
        is(2, 254, "SET 2 127", "DOUBLE 2");
        is(2, 33022, "SET 2 49279", "DOUBLE 2");
        DUE.by("2 ADC m: A becomes A + m + C, C the carry");
        is(2, 65535, "SET 2 65279", "SET 3 256", "ADD 2 2 3");
        is(2, 0, "SET 2 65280", "SET 3 256", "ADD 2 2 3");
        is(2, 0, "SET 2 65281", "SET 3 255", "ADD 2 2 3");
        DUE.by("3 SBC m: A becomes A - m - 1 + C, C is 0 if it borrows");
        is(2, 65535, "SET 2 255", "SET 3 256", "SUB 2 2 3");
        is(2, 0, "SET 2 256", "SET 3 256", "SUB 2 2 3");
        is(2, 255, "SET 2 512", "SET 3 257", "SUB 2 2 3");
    }

    /** Each instruction with each choice of variables, also where two or three of them are one. */
    private static void everyWidth() {
        DUE.by("(both modulo 256 if a is a BYTE, else 65536)");
        for (int op = 2; op <= 6; op++) {
            for (int choice = 0; choice < 64; choice++) {
                for (int left : EDGES) {
                    for (int right : EDGES) {
                        worksOut(op, new int[] {choice / 16, choice / 4 % 4, choice % 4}, left, right);
                    }
                }
            }
        }
    }

    private static void worksOut(int op, int[] abc, int left, int right) {
        FrameBackEnd x = Programs.given("FUNCTION 1 1 2 2");
        int[] values = new int[4];
        x.op(0, abc[1], left, 0);
        values[abc[1]] = cut(abc[1], left);
        x.op(0, abc[2], right, 0);
        values[abc[2]] = cut(abc[2], right);
        x.op(op, abc[0], abc[1], abc[2]);
        values[abc[0]] = cut(abc[0], plainly(op, values[abc[1]], values[abc[2]]));
        x.op(14, 0, 0, 0);
        x.compile();
        x.start();
        x.run(3);
        for (int v = 0; v < 4; v++) {
            DUE.is("variable " + v + " behind op " + op + " " + java.util.Arrays.toString(abc) + " of " + left + " and "
                    + right, valueOf(x, v), values[v]);
        }
    }

    private static int cut(int v, int value) {
        return value & (SIZES[v] == 1 ? 255 : 65535);
    }

    private static int plainly(int op, int b, int c) {
        return switch (op) {
            case 2 -> b + c;
            case 3 -> b - c;
            case 4 -> b & c;
            case 5 -> b | c;
            default -> b ^ c;
        };
    }

    /** A loop in the program itself goes through all bytes and adds and takes away 1. */
    private static void everyByte() {
        DUE.by("a becomes b + c   3 SUB a b c: a becomes b - c");
        FrameBackEnd up = Programs.started("FUNCTION 1 1", "SET 1 1", "ADD 0 0 1", "GOTO 1");
        FrameBackEnd down = Programs.started("FUNCTION 1 1", "SET 1 1", "SUB 0 0 1", "GOTO 1");
        up.run(1);
        down.run(1);
        for (int k = 1; k <= 150; k++) {
            up.run(4);
            down.run(4);
            DUE.is("up " + 2 * k, up.value(0, 0), 2 * k % 256);
            DUE.is("down " + 2 * k, down.value(0, 0), Math.floorMod(-2 * k, 256));
        }
    }
}
