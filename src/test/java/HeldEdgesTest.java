/** When an LDA is left out and when just not: each clause that makes HELD something or nothing, and each LDA. */
public final class HeldEdgesTest {
    private static final Due DUE = new Due("HeldEdgesTest");
    private static final int NOTHING = -1;

    /** BYTEs 0 and 1 at 0 and 1, WIDEs 2 and 3 at 2 and 4, an ARRAY 4 of 5 bytes at 6. */
    private static final String[] VARIABLES = {"FUNCTION 1 1 2 2 5"};
    private static final String[] CALLEES = {"FUNCTION 1", "GOTO 0", "FUNCTION", "GOTO 0"};
    private static final int[] ADDRESSES = {0, 1, 2, 4};

    public static void main(String[] args) {
        beginning();
        behindLoadsAndStores();
        behindArithmetic();
        behindIndexed();
        behindBranches();
        behindCalls();
        behindDoubles();
        behindWhatChangesNothing();
        targets();
        everyLoad();
        farLoads();
        valuesHold();
        DUE.end();
    }

    private static int sizeOf(FrameBackEnd x, int f, int i) {
        return x.address(f, i + 1) - x.address(f, i);
    }

    /** Behind the lines an OUT of each scalar in turn: only the one at the address is without its LDA. */
    private static void held(int address, String... lines) {
        for (int v = 0; v < ADDRESSES.length; v++) {
            FrameBackEnd x = Programs.compiled(Programs.join(VARIABLES, lines,
                    Programs.lines("OUT " + v, "GOTO 0"), CALLEES));
            int whole = v < 2 ? 3 : 6;
            DUE.is("OUT " + v + " behind " + String.join("; ", lines), sizeOf(x, 0, lines.length),
                    ADDRESSES[v] == address ? whole - 2 : whole);
        }
    }

    private static void beginning() {
        DUE.by("HELD is nothing at the beginning of a function");
        held(NOTHING);
        for (String end : Programs.lines("GOTO 1", "RETURN 0")) {
            FrameBackEnd x = Programs.compiled("FUNCTION 1", "OUT 0", end, "FUNCTION 1", "OUT 0", "GOTO 0");
            DUE.is("OUT 0 behind a function that held it", sizeOf(x, 1, 0), 3);
        }
    }

    private static void behindLoadsAndStores() {
        DUE.by("behind LDA or STA (without X) it is their constant or address");
        held(0, "OUT 0");
        held(1, "OUT 1");
        held(3, "OUT 2");
        held(1, "OUT 0", "OUT 1");
        held(0, "SET 0 0");
        held(3, "SET 2 0");
        held(0, "MOVE 0 1");
        held(0, "MOVE 0 2");
        held(3, "MOVE 2 0");
        held(0, "MOVE 0 0");
    }

    private static void behindArithmetic() {
        DUE.by("behind ADC, SBC, AND, ORA, EOR");
        for (String name : Programs.lines("ADD", "SUB", "AND", "OR", "XOR")) {
            held(0, name + " 0 1 1");
            held(0, name + " 0 0 1");
            held(0, name + " 0 2 3");
            held(1, name + " 1 0 0");
            held(3, name + " 2 0 1");
            held(3, name + " 2 2 2");
        }
        held(NOTHING, "ZERO 2 0");
        held(NOTHING, "BELOW 2 3 0");
        held(NOTHING, "BELOW 0 2 0");
        held(NOTHING, "BELOW 2 0 0");
        held(NOTHING, "OUT 0", "BELOW 2 0 0");
        held(NOTHING, "STORE 4 0 2", "ZERO 2 0");
    }

    private static void behindIndexed() {
        DUE.by("behind .. an LDA with X");
        held(0, "LOAD 0 4 1");
        held(0, "LOAD 0 4 0");
        held(3, "LOAD 2 4 0");
        held(0, "OUT 1", "LOAD 0 4 1");
        DUE.by("behind LDA or STA (without X) it is their constant or address");
        held(0, "STORE 4 1 0");
        held(0, "STORE 4 0 0");
        held(2, "STORE 4 0 2");
        held(4, "STORE 4 0 3");
        held(4, "OUT 0", "STORE 4 0 3");
        held(4, "STORE 4 0 3", "STORE 4 1 3");
        FrameBackEnd x = Programs.compiled("FUNCTION 3 1", "STORE 0 1 1", "OUT 1", "GOTO 0");
        DUE.is("OUT behind STORE to an ARRAY at 0", sizeOf(x, 0, 1), 1);
    }

    private static void behindBranches() {
        DUE.by("behind LDA or STA (without X) it is their constant or address");
        held(0, "ZERO 0 0");
        held(0, "BELOW 0 1 0");
        held(0, "BELOW 0 0 0");
        held(1, "BELOW 1 0 0");
        held(1, "OUT 1", "BELOW 1 0 0");
        held(0, "OUT 1", "ZERO 0 0");
        held(2, "STORE 4 0 2", "GOTO 0");
    }

    private static void behindCalls() {
        DUE.by("behind .. JSR");
        held(0, "CALL 1 0 0");
        held(1, "CALL 1 0 1");
        held(1, "CALL 2 0 1");
        held(1, "OUT 0", "CALL 2 0 1");
        held(3, "OUT 0", "CALL 2 0 2");
        held(127, "RETURN 0");
        held(127, "RETURN 2");
    }

    private static void behindDoubles() {
        DUE.by("ASL and ROL of the address that is held make it nothing");
        held(NOTHING, "OUT 0", "DOUBLE 0");
        held(NOTHING, "STORE 4 0 2", "DOUBLE 2");
        held(NOTHING, "STORE 4 0 3", "DOUBLE 3");
        held(0, "OUT 0", "DOUBLE 1");
        held(0, "OUT 0", "DOUBLE 2");
        held(2, "STORE 4 0 2", "DOUBLE 3");
        held(4, "STORE 4 0 3", "DOUBLE 2");
        held(4, "STORE 4 0 3", "DOUBLE 0", "DOUBLE 1", "DOUBLE 2");
        held(NOTHING, "DOUBLE 0");
        held(0, "OUT 0", "DOUBLE 0", "OUT 0");
        FrameBackEnd high = Programs.compiled("FUNCTION 2 1", "OUT 0", "DOUBLE 0", "RETURN 0");
        DUE.is("RETURN behind ROL of what is held", high.length() - high.address(0, 2), 11);
    }

    /** LDX, CPX, CMP, CLC, SEC, the branches, OUT, JMP and STA with X leave A alone. */
    private static void behindWhatChangesNothing() {
        DUE.by("An LDA (without X) is LEFT OUT if A holds its byte already, as is known by HELD");
        held(0, "OUT 0", "OUT 0");
        held(0, "OUT 0", "STORE 4 1 0");
        held(0, "OUT 0", "GOTO 0");
        FrameBackEnd sum = Programs.compiled("FUNCTION 1 1", "OUT 0", "ADD 1 0 0", "OUT 1", "SUB 0 1 1", "GOTO 0");
        DUE.is("ADD behind CLC", sizeOf(sum, 0, 1), 5);
        DUE.is("SUB behind SEC", sizeOf(sum, 0, 3), 5);
        FrameBackEnd index = Programs.compiled("FUNCTION 1 3", "OUT 0", "STORE 1 0 0", "GOTO 0");
        DUE.is("STORE behind LDX, CPX, BCC and TRAP", sizeOf(index, 0, 1), 9);
    }

    private static void targets() {
        DUE.by("HELD is nothing .. at each TARGET");
        for (String from : Programs.lines("GOTO 1", "ZERO 1 1", "BELOW 1 1 1")) {
            FrameBackEnd back = Programs.compiled("FUNCTION 1 1", "OUT 0", "OUT 0", "OUT 0", from, "GOTO 0");
            DUE.is("a target of a later " + from, sizeOf(back, 0, 1), 3);
            DUE.is("behind it", sizeOf(back, 0, 2), 1);
        }
        for (String from : Programs.lines("GOTO 3", "ZERO 1 3", "BELOW 1 1 3")) {
            FrameBackEnd ahead = Programs.compiled("FUNCTION 1 1", from, "OUT 0", "OUT 0", "OUT 0", "GOTO 0");
            DUE.is("a target of an earlier " + from, sizeOf(ahead, 0, 3), 3);
            DUE.is("before it", sizeOf(ahead, 0, 2), 1);
        }
        FrameBackEnd own = Programs.compiled("FUNCTION 1 1", "OUT 1", "BELOW 1 1 1", "GOTO 0");
        DUE.is("a target of itself", sizeOf(own, 0, 1), 6);
        FrameBackEnd other = Programs.compiled("FUNCTION 1", "OUT 0", "OUT 0", "GOTO 0",
                "FUNCTION 1", "OUT 0", "OUT 0", "GOTO 1");
        DUE.is("that number is a target in another function", sizeOf(other, 0, 1), 1);
        DUE.is("in this one it is", sizeOf(other, 1, 1), 3);
        FrameBackEnd dead = Programs.compiled("FUNCTION 1", "OUT 0", "OUT 0", "RETURN 0", "GOTO 1");
        DUE.is("a target of what is never done", sizeOf(dead, 0, 1), 3);
    }

    /** What STORE 4 1 v left in A is the first that the instruction loads, except where there is no LDA of it. */
    private static void everyLoad() {
        DUE.by("Only the LDA of a ZERO with a BYTE is never left out.");
        String[] leftOut = {"MOVE 1 0", "MOVE 2 0", "MOVE 0 0", "ADD 0 0 0", "ADD 2 0 3", "SUB 0 0 1", "AND 1 0 1",
            "OR 1 0 1", "XOR 1 0 1", "STORE 4 0 0", "BELOW 0 1 0", "BELOW 0 2 0", "CALL 1 0 0", "OUT 0"};
        String[] stay = {"ZERO 0 0", "SET 0 7", "SET 2 0", "LOAD 0 4 0", "DOUBLE 0", "CALL 2 0 0", "MOVE 1 2", "GOTO 0",
            "ADD 0 1 0", "OUT 1", "ZERO 2 0", "BELOW 1 0 0"};
        for (String line : leftOut) {
            DUE.is("saved in " + line, saved(0, line), 2);
        }
        for (String line : stay) {
            DUE.is("saved in " + line, saved(0, line), 0);
        }
        for (String line : Programs.lines("ZERO 2 0", "MOVE 3 2", "MOVE 0 2", "BELOW 2 0 0", "OUT 2", "CALL 1 2 0")) {
            DUE.is("saved in " + line, saved(2, line), 2);
        }
        DUE.is("saved in RETURN of a BYTE", saved(0, "RETURN 0"), 2);
        DUE.is("saved in RETURN of a WIDE", saved(2, "RETURN 2"), 2);
        DUE.is("saved in RETURN of another", saved(0, "RETURN 1"), 0);
    }

    /** How much shorter the line is where A holds v.0 than where it holds nothing. */
    private static int saved(int v, String line) {
        String[] end = Programs.join(Programs.lines(line, "GOTO 0"), CALLEES);
        FrameBackEnd with = Programs.compiled(Programs.join(VARIABLES, Programs.lines("STORE 4 1 " + v), end));
        FrameBackEnd without = Programs.compiled(Programs.join(VARIABLES, Programs.lines("ZERO 3 0"), end));
        return sizeOf(without, 0, 1) - sizeOf(with, 0, 1);
    }

    private static void farLoads() {
        DUE.by("An LDA (without X) is LEFT OUT if A holds its byte already, as is known by HELD");
        FrameBackEnd x = Programs.compiled("FUNCTION 8 8 1 1", "OUT 2", "OUT 2", "OUT 3", "GOTO 0");
        DUE.is("the first one, at 16", sizeOf(x, 0, 0), 4);
        DUE.is("the second one", sizeOf(x, 0, 1), 1);
        DUE.is("at 17", sizeOf(x, 0, 2), 4);
    }

    private static void valuesHold() {
        DUE.by("A holds its byte already, as is known by HELD");
        FrameBackEnd x = Programs.started("FUNCTION 1 1 2 5", "SET 0 200", "MOVE 1 0", "ADD 2 1 0", "DOUBLE 1",
                "OUT 1", "STORE 3 0 1", "RETURN 0");
        x.run(5);
        DUE.is("doubled in its place, then loaded", x.output(0), 144);
        DUE.is("the WIDE", x.value(2, 0) + 256 * x.value(2, 1), 400);
        FrameBackEnd loop = Programs.started("FUNCTION 1 1", "SET 1 1", "OUT 0", "ADD 0 0 1", "OUT 0", "GOTO 1");
        loop.run(9);
        for (int k = 0; k < 4; k++) {
            DUE.is("output(" + k + ")", loop.output(k), (k + 1) / 2);
        }
    }
}
