/** Promise 7: code; the bytes of every instruction, and which LDA is left out. */
public final class CodeTest {
    private static final Due DUE = new Due("CodeTest");

    public static void main(String[] args) {
        edges();
        rawBytes();
        setAndMove();
        arithmetic();
        doubling();
        arrays();
        flow();
        calls();
        callsByParameter();
        returnsAndOutput();
        farAddresses();
        arrayAtNothing();
        heldIsLost();
        heldIsKept();
        DUE.end();
    }

    /** BYTEs 0 and 1 at 0 and 1, WIDEs 2 and 3 at 2 and 4, an ARRAY 4 of 5 bytes at 6; RETURN 0 ends it. */
    private static void body(String what, String[] instructions, String... code) {
        String[] lines = Programs.join(Programs.lines("FUNCTION 1 1 2 2 5"), instructions);
        same(what, Programs.compiled(lines), code);
    }

    private static void same(String what, FrameBackEnd x, String... code) {
        DUE.is(what, Bytes.of(x).toString(), Bytes.of(code).toString());
    }

    private static String[] lines(String... lines) {
        return lines;
    }

    private static void edges() {
        FrameBackEnd x = Programs.given("FUNCTION 1", "OUT 0", "RETURN 0");
        DUE.is("code(0) before compile()", x.code(0), -1);
        x.compile();
        DUE.is("code(0)", x.code(0), 2);
        DUE.is("code(11)", x.code(11), 160);
        DUE.is("code(12)", x.code(12), -1);
        DUE.is("code(-1)", x.code(-1), -1);
        DUE.is("code(500)", x.code(500), -1);
        DUE.is("code(max)", x.code(Integer.MAX_VALUE), -1);
        DUE.is("code(min)", x.code(Integer.MIN_VALUE), -1);
        x.function();
        DUE.is("code(0) after function()", x.code(0), -1);
    }

    /** Written as numbers, so that a fault in Bytes can't hide one in the class. */
    private static void rawBytes() {
        FrameBackEnd x = Programs.compiled("FUNCTION 2 1 8 8 1 3", "ADD 0 4 1", "LOAD 4 5 1", "STORE 2 1 4", "ZERO 1 0",
                "GOTO 2", "RETURN 0");
        DUE.is("bytes", Bytes.of(x).toString(), "["
                + "96, 3, 19, 0, 18, 2, 10, 0, 1, 0, 17, 0, 10, 1, "
                + "74, 2, 89, 3, 134, 1, 176, 5, 20, 0, 11, 19, 0, "
                + "74, 2, 89, 8, 134, 1, 176, 3, 19, 0, 12, 3, "
                + "2, 2, 118, 213, 151, 27, 0, "
                + "2, 0, 11, 126, 0, 2, 1, 11, 127, 0, 160]");
    }

    private static void setAndMove() {
        body("SET of a BYTE", lines("SET 0 511", "GOTO 0"), "LDA #255", "STA 0", "JMP 0");
        body("SET of a WIDE", lines("SET 2 65279", "GOTO 0"), "LDA #255", "STA 2", "LDA #254", "STA 3", "JMP 0");
        body("SET with the same byte twice", lines("SET 2 257", "SET 0 1", "GOTO 0"),
                "LDA #1", "STA 2", "LDA #1", "STA 3", "LDA #1", "STA 0", "JMP 0");
        body("MOVE of a BYTE", lines("MOVE 0 1", "GOTO 0"), "LDA 1", "STA 0", "JMP 0");
        body("MOVE of a WIDE to a BYTE", lines("MOVE 0 2", "GOTO 0"), "LDA 2", "STA 0", "JMP 0");
        body("MOVE of a BYTE to a WIDE", lines("MOVE 2 0", "GOTO 0"), "LDA 0", "STA 2", "LDA #0", "STA 3", "JMP 0");
        body("MOVE of a WIDE", lines("MOVE 2 3", "GOTO 0"), "LDA 4", "STA 2", "LDA 5", "STA 3", "JMP 0");
        body("MOVE to itself", lines("MOVE 0 0", "MOVE 0 0", "GOTO 0"), "LDA 0", "STA 0", "STA 0", "JMP 0");
    }

    private static void arithmetic() {
        body("ADD of BYTEs", lines("ADD 0 0 1", "GOTO 0"), "CLC", "LDA 0", "ADC 1", "STA 0", "JMP 0");
        body("ADD to a WIDE", lines("ADD 2 0 3", "GOTO 0"),
                "CLC", "LDA 0", "ADC 4", "STA 2", "LDA #0", "ADC 5", "STA 3", "JMP 0");
        body("SUB", lines("SUB 2 3 0", "GOTO 0"),
                "SEC", "LDA 4", "SBC 0", "STA 2", "LDA 5", "SBC #0", "STA 3", "JMP 0");
        body("SUB to a BYTE", lines("SUB 0 2 3", "GOTO 0"), "SEC", "LDA 2", "SBC 4", "STA 0", "JMP 0");
        String[] names = {"AND", "OR", "XOR"};
        String[] codes = {"AND", "ORA", "EOR"};
        for (int k = 0; k < names.length; k++) {
            body(names[k], lines(names[k] + " 2 1 0", names[k] + " 0 3 2", "GOTO 0"),
                    "LDA 1", codes[k] + " 0", "STA 2", "LDA #0", codes[k] + " #0", "STA 3",
                    "LDA 4", codes[k] + " 2", "STA 0", "JMP 0");
        }
    }

    private static void doubling() {
        body("DOUBLE", lines("DOUBLE 0", "DOUBLE 2", "GOTO 0"), "ASL 0", "ASL 2", "ROL 3", "JMP 0");
        body("ASL of what is held", lines("SET 0 1", "DOUBLE 0", "OUT 0", "GOTO 0"),
                "LDA #1", "STA 0", "ASL 0", "LDA 0", "OUT", "JMP 0");
        body("ASL of another", lines("SET 0 1", "DOUBLE 1", "OUT 0", "GOTO 0"),
                "LDA #1", "STA 0", "ASL 1", "OUT", "JMP 0");
        body("ROL of what is held", lines("SET 2 1", "DOUBLE 2", "OUT 2", "GOTO 0"),
                "LDA #1", "STA 2", "LDA #0", "STA 3", "ASL 2", "ROL 3", "LDA 2", "OUT", "LDA 3", "OUT", "JMP 0");
        body("the low byte is held", lines("SET 2 1", "BELOW 2 0 3", "DOUBLE 2", "OUT 3", "GOTO 0"),
                "LDA #1", "STA 2", "LDA #0", "STA 3", "LDA 2", "CMP 0", "LDA 3", "SBC #0", "BCC +4",
                "ASL 2", "ROL 3", "LDA 4", "OUT", "LDA 5", "OUT", "JMP 0");
        body("of the low byte that is held", lines("STORE 4 0 2", "DOUBLE 2", "STORE 4 0 2", "GOTO 0"),
                "LDX 0", "CPX #5", "BCC +1", "TRAP", "LDA 2", "STA 6,X", "ASL 2", "ROL 3",
                "LDX 0", "CPX #5", "BCC +1", "TRAP", "LDA 2", "STA 6,X", "JMP 0");
    }

    private static void arrays() {
        body("LOAD of a BYTE", lines("LOAD 0 4 1", "OUT 0", "GOTO 0"),
                "LDX 1", "CPX #5", "BCC +1", "TRAP", "LDA 6,X", "STA 0", "OUT", "JMP 0");
        body("LOAD of a WIDE", lines("LOAD 2 4 1", "GOTO 0"),
                "LDX 1", "CPX #5", "BCC +1", "TRAP", "LDA 6,X", "STA 2", "LDA #0", "STA 3", "JMP 0");
        body("LOAD twice", lines("LOAD 0 4 1", "LOAD 0 4 1", "GOTO 0"),
                "LDX 1", "CPX #5", "BCC +1", "TRAP", "LDA 6,X", "STA 0",
                "LDX 1", "CPX #5", "BCC +1", "TRAP", "LDA 6,X", "STA 0", "JMP 0");
        body("STORE of a BYTE", lines("STORE 4 0 1", "GOTO 0"),
                "LDX 0", "CPX #5", "BCC +1", "TRAP", "LDA 1", "STA 6,X", "JMP 0");
        body("STORE of a WIDE", lines("STORE 4 0 3", "GOTO 0"),
                "LDX 0", "CPX #5", "BCC +1", "TRAP", "LDA 4", "STA 6,X", "JMP 0");
        body("STORE of what is held", lines("SET 1 9", "STORE 4 0 1", "STORE 4 1 1", "OUT 1", "GOTO 0"),
                "LDA #9", "STA 1", "LDX 0", "CPX #5", "BCC +1", "TRAP", "STA 6,X",
                "LDX 1", "CPX #5", "BCC +1", "TRAP", "STA 6,X", "OUT", "JMP 0");
    }

    private static void flow() {
        body("GOTO", lines("GOTO 1", "GOTO 0"), "JMP 3", "JMP 0");
        body("ZERO of a BYTE", lines("ZERO 1 1", "GOTO 0"), "LDA 1", "BEQ +0", "JMP 0");
        body("ZERO of a WIDE", lines("ZERO 3 0", "GOTO 0"), "LDA 4", "ORA 5", "BEQ -6", "JMP 0");
        body("BELOW of BYTEs", lines("BELOW 1 0 0", "GOTO 0"), "LDA 1", "CMP 0", "BCC -6", "JMP 0");
        body("BELOW of a WIDE and a BYTE", lines("BELOW 2 0 1", "GOTO 0"),
                "LDA 2", "CMP 0", "LDA 3", "SBC #0", "BCC +0", "JMP 0");
        body("BELOW of a BYTE and a WIDE", lines("BELOW 0 2 1", "GOTO 0"),
                "LDA 0", "CMP 2", "LDA #0", "SBC 3", "BCC +0", "JMP 0");
        body("BELOW of WIDEs", lines("BELOW 3 2 1", "GOTO 0"),
                "LDA 4", "CMP 2", "LDA 5", "SBC 3", "BCC +0", "JMP 0");
    }

    private static void calls() {
        same("CALL of a BYTE", Programs.compiled("FUNCTION 1 2", "CALL 1 1 0", "RETURN 0", "FUNCTION 1", "GOTO 0"),
                "LDA 1", "STA 3", "JSR 21", "LDA 126", "STA 0",
                "STA 126", "LDA #0", "STA 127", "RTS", "JMP 21");
        same("CALL of a WIDE", Programs.compiled("FUNCTION 1 2", "CALL 1 0 1", "GOTO 0", "FUNCTION 2", "GOTO 0"),
                "LDA 0", "STA 3", "LDA #0", "STA 4", "JSR 24", "LDA 126", "STA 1", "LDA 127", "STA 2", "JMP 0",
                "JMP 24");
    }

    private static void callsByParameter() {
        same("of an ARRAY", Programs.compiled("FUNCTION 1 2", "CALL 1 0 0", "GOTO 0", "FUNCTION 3", "GOTO 0"),
                "JSR 11", "LDA 126", "STA 0", "JMP 0", "JMP 11");
        same("of nothing", Programs.compiled("FUNCTION 1 2", "CALL 1 0 0", "GOTO 0", "FUNCTION", "GOTO 0"),
                "JSR 11", "LDA 126", "STA 0", "JMP 0", "JMP 11");
        same("held before it", Programs.compiled("FUNCTION 1 2", "SET 0 1", "CALL 1 0 0", "GOTO 0",
                "FUNCTION 1", "GOTO 0"),
                "LDA #1", "STA 0", "STA 3", "JSR 17", "LDA 126", "STA 0", "JMP 0", "JMP 17");
        same("of an earlier function", Programs.compiled("FUNCTION 1", "CALL 2 0 0", "GOTO 0", "FUNCTION 1", "RETURN 0",
                "FUNCTION 1", "CALL 1 0 0", "GOTO 0"),
                "LDA 0", "STA 1", "JSR 26", "LDA 126", "STA 0", "JMP 0",
                "LDA 2", "STA 126", "LDA #0", "STA 127", "RTS",
                "LDA 1", "STA 2", "JSR 15", "LDA 126", "STA 1", "JMP 26");
    }

    private static void returnsAndOutput() {
        body("RETURN of a BYTE", lines("RETURN 1"), "LDA 1", "STA 126", "LDA #0", "STA 127", "RTS");
        body("RETURN of a WIDE", lines("RETURN 2"), "LDA 2", "STA 126", "LDA 3", "STA 127", "RTS");
        body("OUT of a BYTE", lines("OUT 0", "OUT 0", "RETURN 0"),
                "LDA 0", "OUT", "OUT", "STA 126", "LDA #0", "STA 127", "RTS");
        body("OUT of a WIDE", lines("OUT 2", "OUT 2", "GOTO 0"),
                "LDA 2", "OUT", "LDA 3", "OUT", "LDA 2", "OUT", "LDA 3", "OUT", "JMP 0");
    }

    private static void farAddresses() {
        same("15 and 16", Programs.compiled("FUNCTION 8 6 1 2 3", "SET 2 5", "SET 3 770", "DOUBLE 3", "LOAD 2 4 2",
                "STORE 1 2 2", "STORE 4 2 2", "GOTO 0"),
                "LDA #5", "STA 14", "LDA #2", "STA 15", "LDA #3", "STA 16", "ASL 15", "ROL 16",
                "LDX 14", "CPX #3", "BCC +1", "TRAP", "LDA 17,X", "STA 14",
                "LDX 14", "CPX #6", "BCC +1", "TRAP", "STA 8,X",
                "LDX 14", "CPX #3", "BCC +1", "TRAP", "STA 17,X", "JMP 0");
        same("an array at 15", Programs.compiled("FUNCTION 8 6 1 3", "STORE 3 2 2", "GOTO 0"),
                "LDX 14", "CPX #3", "BCC +1", "TRAP", "LDA 14", "STA 15,X", "JMP 0");
        same("an array at 16", Programs.compiled("FUNCTION 8 6 1 1 3", "LOAD 3 4 2", "GOTO 0"),
                "LDX 14", "CPX #3", "BCC +1", "TRAP", "LDA 16,X", "STA 15", "JMP 0");
    }

    private static void arrayAtNothing() {
        same("an array at 0", Programs.compiled("FUNCTION 3 1", "STORE 0 1 1", "OUT 1", "LOAD 1 0 1", "GOTO 0"),
                "LDX 3", "CPX #3", "BCC +1", "TRAP", "LDA 3", "STA 0,X", "OUT",
                "LDX 3", "CPX #3", "BCC +1", "TRAP", "LDA 0,X", "STA 3", "JMP 0");
    }

    private static void heldIsLost() {
        body("at a target", lines("SET 0 1", "OUT 0", "GOTO 1"),
                "LDA #1", "STA 0", "LDA 0", "OUT", "JMP 4");
        body("at the target of what is never done", lines("SET 0 1", "OUT 0", "GOTO 0", "BELOW 0 0 1", "GOTO 0"),
                "LDA #1", "STA 0", "LDA 0", "OUT", "JMP 0", "CMP 0", "BCC -10", "JMP 0");
        body("behind ADC, until STA", lines("ADD 0 1 1", "OUT 1", "GOTO 0"),
                "CLC", "LDA 1", "ADC 1", "STA 0", "LDA 1", "OUT", "JMP 0");
        body("behind ORA", lines("ZERO 2 0", "MOVE 0 2", "GOTO 0"),
                "LDA 2", "ORA 3", "BEQ -6", "LDA 2", "STA 0", "JMP 0");
        body("behind SBC", lines("BELOW 2 0 0", "OUT 2", "GOTO 0"),
                "LDA 2", "CMP 0", "LDA 3", "SBC #0", "BCC -10", "LDA 2", "OUT", "LDA 3", "OUT", "JMP 0");
        same("at the beginning of a function", Programs.compiled("FUNCTION 1", "SET 0 1", "OUT 0", "GOTO 0",
                "FUNCTION 1", "OUT 0", "RETURN 0"),
                "LDA #1", "STA 0", "OUT", "JMP 0", "LDA 0", "OUT", "STA 126", "LDA #0", "STA 127", "RTS");
        body("at the target of the first instruction", lines("ZERO 1 2", "SET 0 1", "OUT 0", "GOTO 0"),
                "LDA 1", "BEQ +4", "LDA #1", "STA 0", "LDA 0", "OUT", "JMP 0");
        same("behind JSR", Programs.compiled("FUNCTION 1 1", "CALL 1 0 1", "OUT 0", "GOTO 0", "FUNCTION", "GOTO 0"),
                "JSR 14", "LDA 126", "STA 1", "LDA 0", "OUT", "JMP 0", "JMP 14");
        body("a ZERO of a BYTE loads it again", lines("SET 0 1", "ZERO 0 0", "OUT 0", "GOTO 0"),
                "LDA #1", "STA 0", "LDA 0", "BEQ -8", "OUT", "JMP 0");
    }

    private static void heldIsKept() {
        body("a ZERO of a WIDE", lines("MOVE 0 2", "STORE 4 0 2", "ZERO 2 0", "GOTO 0"),
                "LDA 2", "STA 0", "LDX 0", "CPX #5", "BCC +1", "TRAP", "LDA 2", "STA 6,X", "ORA 3", "BEQ -19", "JMP 0");
        body("behind CMP and BCC", lines("BELOW 0 1 0", "OUT 0", "GOTO 0"),
                "LDA 0", "CMP 1", "BCC -6", "OUT", "JMP 0");
        body("behind CLC and SEC", lines("OUT 0", "ADD 1 0 0", "OUT 1", "SUB 0 1 0", "GOTO 0"),
                "LDA 0", "OUT", "CLC", "ADC 0", "STA 1", "OUT", "SEC", "SBC 0", "STA 0", "JMP 0");
        body("behind JMP", lines("SET 0 1", "GOTO 0", "OUT 0", "GOTO 0"),
                "LDA #1", "STA 0", "JMP 0", "OUT", "JMP 0");
        body("STA takes the place of what was held", lines("MOVE 0 1", "OUT 1", "GOTO 0"),
                "LDA 1", "STA 0", "LDA 1", "OUT", "JMP 0");
        body("in the high part", lines("SET 2 1", "MOVE 0 3", "GOTO 0"),
                "LDA #1", "STA 2", "LDA #0", "STA 3", "LDA 4", "STA 0", "JMP 0");
    }
}
