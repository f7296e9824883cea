/** ZERO and BELOW at their boundaries, and where GOTO, CALL and RETURN lead at the ends of functions. */
public final class FlowEdgesTest {
    private static final Due DUE = new Due("FlowEdgesTest");
    private static final int[] EDGES = {0, 1, 2, 127, 128, 254, 255, 256, 257, 511, 512, 32767, 32768, 65279, 65280,
        65534, 65535};

    public static void main(String[] args) {
        zeroOfBytes();
        zeroOfWides();
        below();
        belowItself();
        zeroBehindOthers();
        targetsAtTheEnds();
        targetsOfThemselves();
        callsAtTheEnds();
        deepest();
        DUE.end();
    }

    private static boolean goes(String... lines) {
        FrameBackEnd x = Programs.started(Programs.join(Programs.lines("FUNCTION 1 1 2 2"), lines,
                Programs.lines("RETURN 0", "RETURN 1")));
        x.run(lines.length);
        return x.next() == lines.length + 1;
    }

    private static void zeroOfBytes() {
        DUE.by("11 ZERO a l: goes to l if a is 0");
        for (int k = 0; k < 256; k++) {
            DUE.is("ZERO of a BYTE " + k, goes("SET 0 " + k, "ZERO 0 3"), k == 0);
        }
        DUE.is("a BYTE that lost its high byte", goes("SET 0 256", "ZERO 0 3"), true);
    }

    private static void zeroOfWides() {
        DUE.by("11 ZERO a l: goes to l if a is 0");
        for (int k : EDGES) {
            DUE.is("ZERO of a WIDE " + k, goes("SET 2 " + k, "ZERO 2 3"), k == 0);
        }
        for (int bit = 0; bit < 16; bit++) {
            DUE.is("ZERO with bit " + bit, goes("SET 2 " + (1 << bit), "ZERO 2 3"), false);
        }
        DUE.is("wrapped to 0", goes("SET 2 32768", "DOUBLE 2", "ZERO 2 4"), true);
    }

    private static void below() {
        DUE.by("12 BELOW a b l: goes to l if a is less than b");
        for (int left : EDGES) {
            for (int right : EDGES) {
                boolean less = left < right;
                boolean bytes = (left & 255) < (right & 255);
                String what = left + " below " + right;
                DUE.is(what, goes("SET 2 " + left, "SET 3 " + right, "BELOW 2 3 4"), less);
                DUE.is(what + ", BYTEs", goes("SET 0 " + left, "SET 1 " + right, "BELOW 0 1 4"), bytes);
                DUE.is(what + ", a BYTE and a WIDE", goes("SET 0 " + left, "SET 3 " + right, "BELOW 0 3 4"),
                        (left & 255) < right);
                DUE.is(what + ", a WIDE and a BYTE", goes("SET 2 " + left, "SET 1 " + right, "BELOW 2 1 4"),
                        left < (right & 255));
            }
        }
    }

    private static void belowItself() {
        DUE.by("12 BELOW a b l: goes to l if a is less than b");
        for (int k : EDGES) {
            DUE.is(k + " below itself", goes("SET 2 " + k, "BELOW 2 2 3"), false);
            DUE.is("a BYTE below itself", goes("SET 0 " + k, "BELOW 0 0 3"), false);
        }
    }

    /** What these left in A, C and Z is not what the branch asks. */
    private static void zeroBehindOthers() {
        DUE.by("Only the LDA of a ZERO with a BYTE is never left out.");
        DUE.is("behind SET of it", goes("SET 1 1", "SET 0 0", "ZERO 0 4"), true);
        DUE.is("behind CMP that made Z 1", goes("SET 0 5", "BELOW 0 0 0", "ZERO 0 4"), false);
        DUE.is("behind CMP that made Z 0", goes("SET 1 5", "BELOW 0 1 2", "ZERO 0 4"), true);
        DUE.is("behind ASL that made Z 1", goes("SET 0 5", "DOUBLE 1", "ZERO 0 4"), false);
        DUE.is("behind ASL of another", goes("SET 1 128", "SET 0 5", "DOUBLE 1", "ZERO 0 5"), false);
        DUE.is("behind ASL of itself", goes("SET 0 128", "DOUBLE 0", "ZERO 0 4"), true);
    }

    private static void targetsAtTheEnds() {
        DUE.by("2 if a target is no instruction of its function");
        FrameBackEnd x = Programs.started(Programs.join(Programs.lines("FUNCTION 1", "GOTO 23"),
                Programs.times(22, "OUT 0"), Programs.lines("GOTO 0")));
        x.run(1);
        DUE.is("the 24th instruction", x.next(), 23);
        x.run(1);
        DUE.is("the first one", x.next(), 0);
        int[] wrong = {Integer.MIN_VALUE, -24, -1, 24, 25, 60, Integer.MAX_VALUE};
        for (int l : wrong) {
            for (String branch : Programs.lines("GOTO " + l, "ZERO 0 " + l, "BELOW 0 0 " + l)) {
                FrameBackEnd y = Programs.given(Programs.join(Programs.lines("FUNCTION 1", branch),
                        Programs.times(22, "OUT 0"), Programs.lines("GOTO 0")));
                DUE.is("compile() with " + branch, y.compile(), 2);
            }
        }
    }

    private static void targetsOfThemselves() {
        DUE.by("10 GOTO l   11 ZERO a l: goes to l if a is 0   12 BELOW a b l: goes to l if a is less than b");
        for (String line : Programs.lines("GOTO 1", "ZERO 0 1", "BELOW 0 1 1")) {
            FrameBackEnd x = Programs.started("FUNCTION 1 1", "SET 1 1", line, "RETURN 0");
            DUE.is("run(1000) with " + line, x.run(1000), 1000);
            DUE.is("next()", x.next(), 1);
        }
        for (String line : Programs.lines("ZERO 1 1", "BELOW 1 0 1")) {
            FrameBackEnd x = Programs.started("FUNCTION 1 1", "SET 1 1", line, "RETURN 0");
            DUE.is("run(1000) with " + line, x.run(1000), 3);
        }
        for (String line : Programs.lines("GOTO 2", "ZERO 0 2", "ZERO 1 2", "BELOW 0 1 2", "BELOW 1 0 2")) {
            FrameBackEnd x = Programs.started("FUNCTION 1 1", "SET 1 1", line, "RETURN 0");
            DUE.is("run(2) with the next one as target", x.run(2), 2);
            DUE.is("next()", x.next(), 2);
        }
    }

    private static void callsAtTheEnds() {
        DUE.by("the function that called goes on behind its CALL");
        String[] lines = Programs.join(Programs.lines("FUNCTION 1"), Programs.times(22, "OUT 0"),
                Programs.lines("CALL 5 0 0", "RETURN 0"));
        for (int f = 1; f < 5; f++) {
            lines = Programs.join(lines, Programs.lines("FUNCTION", "GOTO 0"));
        }
        FrameBackEnd x = Programs.started(Programs.join(lines, Programs.lines("FUNCTION 1", "RETURN 0")));
        DUE.is("run(23)", x.run(23), 23);
        DUE.is("next() in the last function", x.next(), 120);
        x.run(1);
        DUE.is("next() behind the CALL", x.next(), 23);
        FrameBackEnd y = Programs.started("FUNCTION 1", "CALL 1 0 0", "CALL 1 0 0", "RETURN 0", "FUNCTION 1",
                "RETURN 0");
        int[] nexts = {0, 24, 1, 24, 2};
        for (int next : nexts) {
            DUE.is("next() between two CALLs of one function", y.next(), next);
            y.run(1);
        }
    }

    private static void deepest() {
        DUE.by("How many functions are active, the first one included");
        String[] lines = new String[0];
        for (int f = 0; f < 6; f++) {
            lines = Programs.join(lines, Programs.lines("FUNCTION 1"),
                    f < 5 ? Programs.lines("CALL " + (f + 1) + " 0 0") : Programs.lines("OUT 0"),
                    Programs.lines("RETURN 0"));
        }
        FrameBackEnd x = Programs.started(lines);
        DUE.is("run(5)", x.run(5), 5);
        DUE.is("depth()", x.depth(), 6);
        DUE.is("next()", x.next(), 120);
        DUE.is("run(7)", x.run(7), 7);
        DUE.is("depth()", x.depth(), 0);
        DUE.is("state()", x.state(), 1);
    }
}
