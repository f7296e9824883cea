import java.util.List;

/** The forms at their boundaries: addresses 15 and 16, the last ones of the data, and code from 256 on. */
public final class FormEdgesTest {
    private static final Due DUE = new Due("FormEdgesTest");

    public static void main(String[] args) {
        below16();
        from16On();
        wideAt15();
        everyAddress();
        withX();
        resultIsFar();
        constants();
        codeAddresses();
        DUE.end();
    }

    /** A BYTE at an address up to 32, behind ARRAYs. */
    private static String function(int address) {
        StringBuilder sizes = new StringBuilder("FUNCTION");
        int left = address;
        for (int k = 0; k < 4; k++) {
            int size = Math.min(left, 8);
            sizes.append(size > 0 ? " " + size : "");
            left -= size;
        }
        return sizes.toString();
    }

    private static int variables(int address) {
        return (address + 7) / 8;
    }

    private static String code(int address, String... lines) {
        String[] program = new String[lines.length + 2];
        program[0] = function(address) + " 1";
        for (int k = 0; k < lines.length; k++) {
            program[k + 1] = lines[k].replace("v", "" + variables(address));
        }
        program[lines.length + 1] = "GOTO 0";
        FrameBackEnd x = Programs.compiled(program);
        List<Integer> bytes = Bytes.of(x);
        return bytes.subList(0, bytes.size() - 3).toString();
    }

    private static void below16() {
        DUE.by("2 an address below 16, one byte");
        DUE.is("SET at 15", code(15, "SET v 7"), "[1, 7, 10, 15]");
        DUE.is("OUT", code(15, "OUT v"), "[2, 15, 168]");
        DUE.is("ADD", code(15, "ADD v v v"), "[96, 2, 15, 18, 15, 10, 15]");
        DUE.is("SUB", code(15, "SUB v v v"), "[104, 2, 15, 26, 15, 10, 15]");
        DUE.is("AND", code(15, "AND v v v"), "[2, 15, 34, 15, 10, 15]");
        DUE.is("OR", code(15, "OR v v v"), "[2, 15, 42, 15, 10, 15]");
        DUE.is("XOR", code(15, "XOR v v v"), "[2, 15, 50, 15, 10, 15]");
        DUE.is("DOUBLE", code(15, "DOUBLE v"), "[58, 15]");
        DUE.is("LOAD", code(15, "LOAD v 0 v"), "[74, 15, 89, 8, 134, 1, 176, 4, 0, 10, 15]");
        DUE.is("BELOW", code(15, "BELOW v v 1"), "[2, 15, 82, 15, 134, 0]");
    }

    private static void from16On() {
        DUE.by("3 another address, two bytes, the second one 0");
        DUE.is("SET at 16", code(16, "SET v 7"), "[1, 7, 11, 16, 0]");
        DUE.is("OUT", code(16, "OUT v"), "[3, 16, 0, 168]");
        DUE.is("ADD", code(16, "ADD v v v"), "[96, 3, 16, 0, 19, 16, 0, 11, 16, 0]");
        DUE.is("SUB", code(16, "SUB v v v"), "[104, 3, 16, 0, 27, 16, 0, 11, 16, 0]");
        DUE.is("AND", code(16, "AND v v v"), "[3, 16, 0, 35, 16, 0, 11, 16, 0]");
        DUE.is("OR", code(16, "OR v v v"), "[3, 16, 0, 43, 16, 0, 11, 16, 0]");
        DUE.is("XOR", code(16, "XOR v v v"), "[3, 16, 0, 51, 16, 0, 11, 16, 0]");
        DUE.is("DOUBLE", code(16, "DOUBLE v"), "[59, 16, 0]");
        DUE.is("LOAD", code(16, "LOAD v 0 v"), "[75, 16, 0, 89, 8, 134, 1, 176, 4, 0, 11, 16, 0]");
        DUE.is("BELOW", code(16, "BELOW v v 1"), "[3, 16, 0, 83, 16, 0, 134, 0]");
    }

    /** Its low byte is near, its high byte is not. */
    private static void wideAt15() {
        DUE.by("2 an address below 16, one byte   3 another address, two bytes, the second one 0");
        FrameBackEnd x = Programs.started("FUNCTION 8 7 2", "SET 2 772", "DOUBLE 2", "ZERO 2 0", "OUT 2", "GOTO 0");
        DUE.is("code", Bytes.of(x).toString(), "[1, 4, 10, 15, 1, 3, 11, 16, 0, 58, 15, 67, 16, 0, "
                + "2, 15, 43, 16, 0, 118, 235, 2, 15, 168, 3, 16, 0, 168, 151, 0, 0]");
        x.run(4);
        DUE.is("the low byte", x.output(0), 8);
        DUE.is("the high byte", x.output(1), 6);
    }

    private static void everyAddress() {
        DUE.by("2 an address below 16, one byte   3 another address, two bytes, the second one 0");
        for (int address = 0; address <= 32; address++) {
            DUE.is("DOUBLE at " + address, code(address, "DOUBLE v"),
                    address < 16 ? "[58, " + address + "]" : "[59, " + address + ", 0]");
        }
        FrameBackEnd x = Programs.compiled("FUNCTION 1 8 8 8 8 8", "CALL 1 0 0", "RETURN 0",
                "FUNCTION 1 8 8 8 8 8", "CALL 2 0 0", "RETURN 0", "FUNCTION 8 8 8 8 5 1", "DOUBLE 5", "GOTO 0");
        int last = x.address(2, 0);
        DUE.is("DOUBLE at 119", x.code(last), 59);
        DUE.is("its address", x.code(last + 1), 119);
        DUE.is("the second byte", x.code(last + 2), 0);
    }

    private static void withX() {
        DUE.by("4, 5 like 2, 3 and X is added");
        for (int address = 1; address <= 24; address++) {
            String sizes = "FUNCTION 1" + function(address - 1).substring(8) + " 3";
            int t = 1 + variables(address - 1);
            FrameBackEnd x = Programs.compiled(sizes, "LOAD 0 " + t + " 0", "STORE " + t + " 0 0", "GOTO 0");
            boolean near = address < 16;
            DUE.is("LDA with X at " + address, x.code(7), near ? 4 : 5);
            DUE.is("its address", x.code(8), address);
            DUE.is("the second byte", x.code(9), near ? 10 : 0);
            int store = x.address(0, 1);
            DUE.is("address(0, 1)", store, near ? 11 : 12);
            DUE.is("STA with X", x.code(store + 7), near ? 12 : 13);
            DUE.is("its address", x.code(store + 8), address);
            DUE.is("the second byte", x.code(store + 9), near ? 151 : 0);
        }
        FrameBackEnd zero = Programs.compiled("FUNCTION 3 1", "LOAD 1 0 1", "GOTO 0");
        DUE.is("LDA with X at 0", zero.code(7), 4);
        DUE.is("its address", zero.code(8), 0);
    }

    private static void resultIsFar() {
        DUE.by("the RESULT is a WIDE at the addresses 126 and 127");
        FrameBackEnd x = Programs.compiled("FUNCTION 2", "CALL 1 0 0", "RETURN 0", "FUNCTION", "GOTO 0");
        DUE.is("code", Bytes.of(x).toString(), "[159, 24, 0, 3, 126, 0, 10, 0, 3, 127, 0, 10, 1, "
                + "2, 0, 11, 126, 0, 2, 1, 11, 127, 0, 160, 151, 24, 0]");
    }

    private static void constants() {
        DUE.by("1 a constant byte");
        int[] tried = {0, 1, 15, 16, 127, 128, 255, 256, 32768, 65280, 65535};
        for (int k : tried) {
            FrameBackEnd x = Programs.compiled("FUNCTION 2 8 8", "SET 0 " + k, "GOTO 0");
            DUE.is("SET " + k, Bytes.of(x).toString(),
                    "[1, " + k % 256 + ", 10, 0, 1, " + k / 256 + ", 10, 1, 151, 0, 0]");
        }
        for (int size = 3; size <= 8; size++) {
            FrameBackEnd x = Programs.compiled("FUNCTION 1 " + size, "LOAD 0 1 0", "GOTO 0");
            DUE.is("CPX", x.code(2), 89);
            DUE.is("its constant", x.code(3), size);
        }
    }

    /** Function 2 begins at each address from 243 to 256: 13 for an ADD of a WIDE, 3 for a GOTO, 1 for an OUT. */
    private static void codeAddresses() {
        DUE.by("7 an address in the code, two bytes, the low one first");
        for (int outs = 1; outs <= 14; outs++) {
            FrameBackEnd x = Programs.compiled(Programs.join(Programs.lines("FUNCTION 1 2"),
                    Programs.times(9, "ADD 1 1 1"), Programs.lines("GOTO 0", "FUNCTION 1 2"),
                    Programs.times(9, "ADD 1 1 1"), Programs.times(outs, "OUT 0"), Programs.lines("GOTO 0"),
                    Programs.lines("FUNCTION 1", "CALL 3 0 0", "GOTO 0", "FUNCTION", "GOTO 0")));
            int begin = 120 + 117 + 2 + outs + 3;
            DUE.is("address(2, 0)", x.address(2, 0), begin);
            int jump = x.address(2, 1);
            DUE.is("JMP", x.code(jump), 151);
            DUE.is("low byte of " + begin, x.code(jump + 1), begin % 256);
            DUE.is("high byte", x.code(jump + 2), begin / 256);
            int callee = x.address(3, 0);
            DUE.is("JSR", x.code(begin), 159);
            DUE.is("low byte of " + callee, x.code(begin + 1), callee % 256);
            DUE.is("high byte", x.code(begin + 2), callee / 256);
        }
    }
}
