/** Branches that just reach and that just don't, ahead and back, and how one that is long makes others long. */
public final class BranchEdgesTest {
    private static final Due DUE = new Due("BranchEdgesTest");

    /** The branches, how many bytes stand before their BEQ or BCC, and the two first bytes, short and long. */
    private static final String[] LINES = {"ZERO 0 ", "ZERO 1 ", "BELOW 0 0 ", "BELOW 1 0 ", "BELOW 0 1 "};
    private static final int[] HEADS = {2, 4, 4, 8, 8};
    private static final int[] SHORTS = {118, 118, 134, 134, 134};
    private static final int[] LONGS = {126, 126, 142, 142, 142};

    public static void main(String[] args) {
        ahead();
        back();
        runsAhead();
        runsBack();
        crossing();
        chain();
        sameTarget();
        inLaterFunctions();
        indexBranchesAreNeverLong();
        countAnew();
        DUE.end();
    }

    private static void ahead() {
        DUE.by("A BEQ or BCC to l is LONG if l lies further than a branch reaches");
        for (int kind = 0; kind < LINES.length; kind++) {
            for (int bytes = 124; bytes <= 131; bytes++) {
                String[] between = Programs.fill(bytes);
                int target = 1 + between.length;
                FrameBackEnd x = Programs.compiled(Programs.join(Programs.lines("FUNCTION 1 2", LINES[kind] + target),
                        between, Programs.lines("GOTO 0")));
                isAhead(x, kind, bytes, target);
            }
        }
    }

    private static void isAhead(FrameBackEnd x, int kind, int bytes, int target) {
        boolean far = bytes > 127;
        int head = HEADS[kind];
        String what = LINES[kind] + "over " + bytes;
        DUE.is("longs(), " + what, x.longs(), far ? 1 : 0);
        DUE.is("first byte, " + what, x.code(head), far ? LONGS[kind] : SHORTS[kind]);
        DUE.is("second byte, " + what, x.code(head + 1), far ? 3 : bytes);
        int goal = head + (far ? 5 : 2) + bytes;
        DUE.is("address of the target, " + what, x.address(0, target), goal);
        DUE.is("length()", x.length(), goal + 3);
        DUE.is("behind it, " + what, x.address(0, 1), head + (far ? 5 : 2));
        if (far) {
            DUE.is("JMP", x.code(head + 2), 151);
            DUE.is("low byte", x.code(head + 3), goal);
            DUE.is("high byte", x.code(head + 4), 0);
        }
    }

    private static void back() {
        DUE.by("6 a branch: one byte, how far it is from behind it to where it goes, -128 .. 127, as a byte");
        for (int kind = 0; kind < LINES.length; kind++) {
            for (int far = 125; far <= 132; far++) {
                String[] before = Programs.fill(far - HEADS[kind] - 2 - 3);
                // The second GOTO makes the branch a target, so that A holds nothing there.
                FrameBackEnd x = Programs.compiled(Programs.join(Programs.lines("FUNCTION 1 2", "GOTO 1"), before,
                        Programs.lines("GOTO " + (before.length + 2), LINES[kind] + 1, "GOTO 1")));
                isBack(x, kind, far, before.length + 2);
            }
        }
    }

    private static void isBack(FrameBackEnd x, int kind, int far, int branch) {
        boolean tooFar = far > 128;
        int at = x.address(0, branch) + HEADS[kind];
        String what = LINES[kind] + "back over " + far;
        DUE.is("place of the branch, " + what, at, 3 + far - 2);
        DUE.is("longs(), " + what, x.longs(), tooFar ? 1 : 0);
        DUE.is("first byte, " + what, x.code(at), tooFar ? LONGS[kind] : SHORTS[kind]);
        DUE.is("second byte, " + what, x.code(at + 1), tooFar ? 3 : 256 - far);
        DUE.is("length(), " + what, x.length(), at + (tooFar ? 5 : 2) + 3);
        if (tooFar) {
            DUE.is("JMP", x.code(at + 2), 151);
            DUE.is("low byte", x.code(at + 3), 3);
            DUE.is("high byte", x.code(at + 4), 0);
        }
    }

    /** 127 and 128 ahead, with the branch taken and not; a long one that is taken has its JMP more. */
    private static void runsAhead() {
        DUE.by("then BNE (BCS) behind the JMP, and JMP l stand in its place");
        for (int bytes = 127; bytes <= 128; bytes++) {
            String[] between = Programs.fill(bytes);
            int target = 2 + between.length;
            for (int k = 0; k < 2; k++) {
                for (String line : Programs.lines("ZERO 0 ", "BELOW 2 0 ")) {
                    FrameBackEnd x = Programs.started(Programs.join(Programs.lines("FUNCTION 1 2 1", "SET 0 " + k,
                            line + target), between, Programs.lines("GOTO 0")));
                    x.run(1);
                    goes(x, line + "over " + bytes, line.startsWith("ZERO") == (k == 0), target, bytes > 127);
                }
            }
        }
    }

    /** 128 and 129 back. The GOTO makes the branch a target, so that A holds nothing there. */
    private static void runsBack() {
        DUE.by("6 a branch: one byte, how far it is from behind it to where it goes, -128 .. 127, as a byte");
        for (int far = 128; far <= 129; far++) {
            for (int k = 0; k < 2; k++) {
                for (String line : Programs.lines("ZERO 0 ", "BELOW 2 0 ")) {
                    int head = line.startsWith("ZERO") ? 2 : 4;
                    String[] before = Programs.fill(far - head - 2 - 3);
                    int branch = before.length + 2;
                    FrameBackEnd x = Programs.started(Programs.join(Programs.lines("FUNCTION 1 2 1", "SET 0 " + k),
                            before, Programs.lines("GOTO " + branch, line + 1, "GOTO 0")));
                    x.run(branch);
                    goes(x, line + "back over " + far, line.startsWith("ZERO") == (k == 0), 1, far > 128);
                }
            }
        }
    }

    private static void goes(FrameBackEnd x, String what, boolean goes, int target, boolean far) {
        int branch = x.next();
        int before = x.spent();
        DUE.is("longs(), " + what, x.longs(), far ? 1 : 0);
        DUE.is("run(1)", x.run(1), 1);
        DUE.is("next(), " + what, x.next(), goes ? target : branch + 1);
        int steps = what.startsWith("ZERO") ? 2 : 3;
        DUE.is("spent(), " + what, x.spent() - before, steps + (goes && far ? 1 : 0));
    }

    /**
     * The first branch goes ahead over the second one, which goes back over the first: short they both just reach,
     * but if one were long, the other would not reach any more.
     */
    private static void crossing() {
        DUE.by("As few as possible are long.");
        DUE.is("both just reach", crossed(20, 100, 23), 0);
        DUE.is("one more behind the second", crossed(20, 100, 24), 2);
        DUE.is("one more before the first", crossed(21, 100, 23), 2);
        DUE.is("one less before the first, one more behind the second", crossed(19, 100, 24), 2);
        DUE.is("four less before the first", crossed(17, 100, 24), 1);
        DUE.is("four less behind the second", crossed(21, 100, 20), 1);
    }

    private static int crossed(int before, int between, int behind) {
        String[] first = Programs.fill(before);
        String[] middle = Programs.fill(between);
        String[] last = Programs.fill(behind);
        int end = first.length + middle.length + last.length + 2;
        FrameBackEnd x = Programs.compiled(Programs.join(Programs.lines("FUNCTION 1 2"), first,
                Programs.lines("ZERO 0 " + end), middle, Programs.lines("ZERO 0 0"), last, Programs.lines("GOTO 0")));
        return x.longs();
    }

    /** Six branches in a row, each of which just reaches if all behind it are short. */
    private static void chain() {
        DUE.by("A BEQ or BCC to l is LONG if l lies further than a branch reaches");
        String[] branches = {"ZERO 0 15", "ZERO 0 16", "ZERO 0 17", "ZERO 0 18", "ZERO 0 19", "ZERO 0 "};
        String[] body = Programs.join(Programs.times(8, "ADD 1 1 1"), Programs.lines("OUT 0"),
                Programs.times(4, "DOUBLE 1"));
        FrameBackEnd reach = Programs.compiled(Programs.join(Programs.lines("FUNCTION 1 2"),
                ended(branches, 20), body, Programs.lines("DOUBLE 1", "GOTO 0")));
        DUE.is("all just reach", reach.longs(), 0);
        for (int k = 0; k < 6; k++) {
            DUE.is("branch " + k, reach.code(4 * k + 3), 127);
        }
        FrameBackEnd far = Programs.compiled(Programs.join(Programs.lines("FUNCTION 1 2"),
                ended(branches, 21), body, Programs.lines("DOUBLE 0", "OUT 0", "GOTO 0")));
        DUE.is("the last one does not, so none does", far.longs(), 6);
        FrameBackEnd first = Programs.compiled(Programs.join(Programs.lines("FUNCTION 1 2", "ZERO 0 16"),
                java.util.Arrays.copyOfRange(ended(branches, 20), 1, 6), body, Programs.lines("DOUBLE 1", "GOTO 0")));
        DUE.is("only the first one does not", first.longs(), 1);
    }

    private static String[] ended(String[] branches, int last) {
        String[] lines = branches.clone();
        lines[5] = lines[5] + last;
        return lines;
    }

    /** Two branches to one target: the first one lies 4 bytes further away, and not in the second one's way. */
    private static void sameTarget() {
        DUE.by("As few as possible are long.");
        int[] wants = {0, 1, 1, 1, 1, 2};
        for (int k = 0; k < wants.length; k++) {
            String[] between = Programs.fill(123 + k);
            int end = between.length + 2;
            FrameBackEnd x = Programs.compiled(Programs.join(Programs.lines("FUNCTION 1 2", "ZERO 0 " + end,
                    "ZERO 0 " + end), between, Programs.lines("GOTO 0")));
            DUE.is("longs() over " + (123 + k), x.longs(), wants[k]);
            DUE.is("the first one", x.code(2), wants[k] == 0 ? 118 : 126);
            DUE.is("the second one", x.code(x.address(0, 1) + 2), wants[k] < 2 ? 118 : 126);
        }
    }

    /** The reach is the same wherever a function begins, also across the address 256. */
    private static void inLaterFunctions() {
        DUE.by("6 a branch: one byte, how far it is from behind it to where it goes, -128 .. 127, as a byte");
        for (int bytes = 126; bytes <= 129; bytes++) {
            String[] between = Programs.fill(bytes);
            int target = between.length + 1;
            FrameBackEnd x = Programs.compiled(Programs.join(Programs.lines("FUNCTION 1 2"), Programs.fill(180),
                    Programs.lines("GOTO 0", "FUNCTION 1 2", "ZERO 0 " + target), between, Programs.lines("GOTO 0")));
            boolean far = bytes > 127;
            DUE.is("longs() over " + bytes, x.longs(), far ? 1 : 0);
            DUE.is("second byte", x.code(186), far ? 3 : bytes);
            int goal = x.address(1, target);
            DUE.is("the target", goal, 187 + bytes + (far ? 3 : 0));
            DUE.is("it lies behind 256", goal >= 256, true);
            if (far) {
                DUE.is("low byte", x.code(188), goal - 256);
                DUE.is("high byte", x.code(189), 1);
            }
        }
    }

    private static void indexBranchesAreNeverLong() {
        DUE.by("How many branches of the code are long; 0 if there is no code.");
        FrameBackEnd x = Programs.compiled(Programs.join(Programs.lines("FUNCTION 1 8 8 3"),
                Programs.times(12, "LOAD 0 3 0"), Programs.times(11, "STORE 3 0 0"), Programs.lines("GOTO 0")));
        DUE.is("longs()", x.longs(), 0);
        DUE.is("length()", x.length(), 12 * 12 + 11 * 10 + 3);
    }

    private static void countAnew() {
        DUE.by("How many branches of the code are long; 0 if there is no code.");
        String[] between = Programs.fill(128);
        FrameBackEnd x = Programs.given(Programs.join(Programs.lines("FUNCTION 1 2", "ZERO 0 " + (1 + between.length)),
                between, Programs.lines("GOTO 0")));
        DUE.is("before compile()", x.longs(), 0);
        x.compile();
        DUE.is("over 128", x.longs(), 1);
        x.compile();
        DUE.is("again", x.longs(), 1);
        x.start();
        DUE.is("in a run", x.longs(), 1);
        x.op(10, 99, 0, 0);
        DUE.is("behind op()", x.longs(), 0);
        x.compile();
        DUE.is("behind a compile() in vain", x.longs(), 0);
    }
}
