/** Promise 8: longs; which branches are long, and that as few as possible are. */
public final class LongsTest {
    private static final Due DUE = new Due("LongsTest");

    public static void main(String[] args) {
        DUE.is("no code", new FrameBackEnd().longs(), 0);
        forward();
        backward();
        oneMakesAnotherLong();
        longsOfAllFunctions();
        takenAway();
        DUE.end();
    }

    /** 9 ADDs of a WIDE below 16 have 117 bytes, each OUT 1, and the first one 2 more for its LDA. */
    private static void forward() {
        for (int outs = 1; outs <= 12; outs++) {
            int bytes = 117 + 2 + outs;
            FrameBackEnd x = Programs.compiled(Programs.join(Programs.lines("FUNCTION 1 2", "ZERO 0 " + (10 + outs)),
                    Programs.times(9, "ADD 1 1 1"), Programs.times(outs, "OUT 0"), Programs.lines("GOTO 0")));
            boolean far = bytes > 127;
            DUE.is("longs() over " + bytes, x.longs(), far ? 1 : 0);
            DUE.is("first byte", x.code(2), far ? 8 * 15 + 6 : 8 * 14 + 6);
            DUE.is("operand", x.code(3), far ? 3 : bytes);
            DUE.is("length()", x.length(), 4 + (far ? 3 : 0) + bytes + 3);
            if (far) {
                DUE.is("JMP", x.code(4), 8 * 18 + 7);
                DUE.is("low", x.code(5), 7 + bytes);
                DUE.is("high", x.code(6), 0);
            }
        }
    }

    private static void backward() {
        for (int outs = 1; outs <= 10; outs++) {
            int back = 3 + 9 * 13 + 2 + outs + 2;
            FrameBackEnd x = Programs.compiled(Programs.join(Programs.lines("FUNCTION 1 2", "GOTO 1"),
                    Programs.lines("GOTO 1"), Programs.times(9, "ADD 1 1 1"), Programs.times(outs, "OUT 0"),
                    Programs.lines("BELOW 0 0 1", "GOTO 1")));
            int behind = 3 + back + 2;
            boolean far = behind - 3 > 128;
            DUE.is("longs() " + outs, x.longs(), far ? 1 : 0);
            DUE.is("first byte", x.code(behind - 2), far ? 8 * 17 + 6 : 8 * 16 + 6);
            DUE.is("operand", x.code(behind - 1), far ? 3 : 256 - (behind - 3));
        }
    }

    /** The first branch reaches its target only as long as the second one, which lies between, is short. */
    private static void oneMakesAnotherLong() {
        for (int outs = 1; outs <= 10; outs++) {
            String[] lines = Programs.join(Programs.lines("FUNCTION 1 2", "ZERO 0 " + (11 + outs), "ZERO 0 23"),
                    Programs.times(9, "ADD 1 1 1"), Programs.times(outs, "OUT 0"),
                    Programs.times(12 - outs, "ADD 1 1 1"), Programs.lines("GOTO 0"));
            FrameBackEnd x = Programs.compiled(lines);
            int between = 4 + 9 * 13 + 2 + outs;
            DUE.is("longs() " + outs, x.longs(), between + 3 > 127 ? 2 : 1);
        }
    }

    private static void longsOfAllFunctions() {
        String[] one = Programs.join(Programs.lines("FUNCTION 2", "ZERO 0 12", "ZERO 0 0"),
                Programs.times(10, "ADD 0 0 0"), Programs.lines("BELOW 0 0 0", "GOTO 0"));
        FrameBackEnd x = Programs.compiled(Programs.join(one, one, one));
        DUE.is("longs()", x.longs(), 6);
        x.compile();
        DUE.is("longs() after a second compile()", x.longs(), 6);
    }

    private static void takenAway() {
        String[] lines = Programs.join(Programs.lines("FUNCTION 2", "ZERO 0 12"), Programs.times(11, "ADD 0 0 0"),
                Programs.lines("GOTO 0"));
        FrameBackEnd x = Programs.given(lines);
        DUE.is("before compile()", x.longs(), 0);
        x.compile();
        DUE.is("after compile()", x.longs(), 1);
        x.variable(1);
        DUE.is("after variable()", x.longs(), 0);
        Programs.give(x, "GOTO 99");
        x.compile();
        DUE.is("after a wrong compile()", x.longs(), 0);
    }
}
