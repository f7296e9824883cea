/** Promise 14: spent. */
public final class SpentTest {
    private static final Due DUE = new Due("SpentTest");

    public static void main(String[] args) {
        FrameBackEnd x = Programs.given("FUNCTION 1 2 4", "SET 0 3", "SET 1 513", "ADD 1 1 0", "DOUBLE 1",
                "STORE 2 0 1", "LOAD 1 2 0", "OUT 1", "ZERO 0 0", "BELOW 0 1 9", "CALL 1 0 0", "SET 0 4",
                "LOAD 0 2 0", "RETURN 0", "FUNCTION 2", "RETURN 0");
        DUE.is("without code", x.spent(), 0);
        x.compile();
        DUE.is("without run", x.spent(), 0);
        x.start();
        int[] each = {2, 4, 7, 2, 5, 7, 4, 2, 4, 5, 7, 2, 4};
        int sum = 0;
        for (int k = 0; k < each.length; k++) {
            sum += each[k];
            DUE.is("run(1)", x.run(1), 1);
            DUE.is("spent() after " + (k + 1), x.spent(), sum);
        }
        DUE.is("state()", x.state(), 2);
        x.run(1);
        DUE.is("after the FAULT", x.spent(), sum);
        DUE.is("refused", x.run(-1), -1);
        DUE.is("it stays", x.spent(), sum);
        x.start();
        DUE.is("after start()", x.spent(), 0);
        x.run(1);
        x.compile();
        DUE.is("after compile()", x.spent(), 0);
        longBranches();
        theEnd();
        DUE.end();
    }

    private static void longBranches() {
        String[] lines = Programs.join(Programs.lines("FUNCTION 2 1", "ZERO 0 13", "BELOW 1 0 13"),
                Programs.times(11, "ADD 0 0 0"), Programs.lines("SET 0 1", "GOTO 0"));
        FrameBackEnd x = Programs.started(lines);
        DUE.is("longs()", x.longs(), 2);
        x.run(1);
        DUE.is("LDA, ORA, BNE, JMP", x.spent(), 4);
        x.run(2);
        DUE.is("four for SET, one for GOTO", x.spent(), 9);
        x.run(1);
        DUE.is("LDA, ORA, BNE", x.spent(), 12);
        x.run(1);
        DUE.is("LDA, CMP, LDA, SBC, BCS, JMP", x.spent(), 18);
        DUE.is("next()", x.next(), 13);
    }

    private static void theEnd() {
        FrameBackEnd x = Programs.started("FUNCTION 1", "RETURN 0");
        x.run(1000);
        DUE.is("with the RTS", x.spent(), 5);
        x.run(1000);
        DUE.is("it stays", x.spent(), 5);
        FrameBackEnd y = Programs.started("FUNCTION 2", "SUB 0 0 0", "GOTO 0");
        for (int k = 0; k < 500; k++) {
            y.run(1000);
        }
        DUE.is("long runs", y.spent(), 500 * 500 * 8);
    }
}
