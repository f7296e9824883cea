/** Promise 15: next. */
public final class NextTest {
    private static final Due DUE = new Due("NextTest");

    public static void main(String[] args) {
        FrameBackEnd x = Programs.given("FUNCTION 1", "GOTO 2", "RETURN 0", "CALL 2 0 0", "GOTO 1",
                "FUNCTION 1", "DOUBLE 0", "RETURN 0", "FUNCTION 1", "CALL 1 0 0", "ZERO 0 2", "RETURN 0");
        DUE.is("without code", x.next(), -1);
        x.compile();
        DUE.is("without run", x.next(), -1);
        x.start();
        int[] nexts = {0, 2, 48, 24, 25, 49, 50, 3, 1};
        for (int next : nexts) {
            DUE.is("next()", x.next(), next);
            DUE.is("run(0)", x.run(0), 0);
            DUE.is("next() again", x.next(), next);
            DUE.is("run(1)", x.run(1), 1);
        }
        DUE.is("at the end", x.next(), -1);
        x.start();
        DUE.is("another run", x.next(), 0);
        x.compile();
        DUE.is("after compile()", x.next(), -1);
        lastNumbers();
        afterFault();
        DUE.end();
    }

    private static void lastNumbers() {
        String[] lines = Programs.lines("FUNCTION 1", "CALL 1 0 0", "RETURN 0");
        for (int f = 1; f < 5; f++) {
            lines = Programs.join(lines, Programs.lines("FUNCTION 1", "CALL " + (f + 1) + " 0 0", "RETURN 0"));
        }
        FrameBackEnd x = Programs.started(Programs.join(lines, Programs.lines("FUNCTION 1"),
                Programs.times(23, "OUT 0"), Programs.lines("RETURN 0")));
        x.run(5);
        DUE.is("first of function 5", x.next(), 120);
        x.run(23);
        DUE.is("last of function 5", x.next(), 143);
        x.run(1);
        DUE.is("back in function 4", x.next(), 97);
        x.run(4);
        DUE.is("back in function 0", x.next(), 1);
    }

    private static void afterFault() {
        FrameBackEnd x = Programs.started("FUNCTION 1 3", "SET 0 3", "STORE 1 0 0", "RETURN 0");
        x.run(1);
        DUE.is("before the FAULT", x.next(), 1);
        x.run(1);
        DUE.is("after it", x.next(), -1);
    }
}
