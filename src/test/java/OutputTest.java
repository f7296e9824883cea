/** Promise 18: output. */
public final class OutputTest {
    private static final Due DUE = new Due("OutputTest");

    public static void main(String[] args) {
        FrameBackEnd x = Programs.given("FUNCTION 2 1", "SET 0 4660", "OUT 0", "SET 1 255", "OUT 1", "RETURN 0");
        DUE.is("output(-1) without code", x.output(-1), 0);
        DUE.is("output(0) without code", x.output(0), -1);
        x.compile();
        DUE.is("output(-1) without run", x.output(-1), 0);
        x.start();
        x.run(1);
        DUE.is("output(-1)", x.output(-1), 0);
        x.run(1);
        DUE.is("output(-1)", x.output(-1), 2);
        DUE.is("low byte", x.output(0), 52);
        DUE.is("high byte", x.output(1), 18);
        DUE.is("none yet", x.output(2), -1);
        x.run(3);
        DUE.is("after the end", x.output(-1), 3);
        DUE.is("output(2)", x.output(2), 255);
        int[] wrong = {3, 99, 100, -2, Integer.MAX_VALUE, Integer.MIN_VALUE};
        for (int k : wrong) {
            DUE.is("output(" + k + ")", x.output(k), -1);
        }
        x.start();
        DUE.is("output(-1) after start()", x.output(-1), 0);
        DUE.is("output(0) after start()", x.output(0), -1);
        afterFault();
        moreThanAreKept();
        DUE.end();
    }

    private static void afterFault() {
        FrameBackEnd x = Programs.started("FUNCTION 1 3", "SET 0 3", "OUT 0", "LOAD 0 1 0", "RETURN 0");
        x.run(9);
        DUE.is("output(-1) after a FAULT", x.output(-1), 1);
        DUE.is("output(0)", x.output(0), 3);
        x.compile();
        DUE.is("output(-1) after compile()", x.output(-1), 0);
        DUE.is("output(0)", x.output(0), -1);
    }

    private static void moreThanAreKept() {
        FrameBackEnd x = Programs.started("FUNCTION 1 1", "SET 1 1", "OUT 0", "ADD 0 0 1", "GOTO 1");
        x.run(1 + 3 * 99 + 1);
        DUE.is("output(-1)", x.output(-1), 100);
        DUE.is("output(99)", x.output(99), 99);
        DUE.is("output(100)", x.output(100), -1);
        x.run(3 * 200);
        DUE.is("output(-1)", x.output(-1), 300);
        DUE.is("output(0)", x.output(0), 0);
        DUE.is("output(99)", x.output(99), 99);
        DUE.is("output(100), which is not kept", x.output(100), -1);
        DUE.is("output(299)", x.output(299), -1);
    }
}
