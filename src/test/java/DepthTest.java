/** Promise 16: depth. */
public final class DepthTest {
    private static final Due DUE = new Due("DepthTest");

    public static void main(String[] args) {
        String[] lines = new String[0];
        for (int f = 0; f < 5; f++) {
            lines = Programs.join(lines, Programs.lines("FUNCTION 1", "CALL " + (f + 1) + " 0 0", "RETURN 0"));
        }
        FrameBackEnd x = Programs.given(Programs.join(lines, Programs.lines("FUNCTION 1", "RETURN 0")));
        DUE.is("without code", x.depth(), 0);
        x.compile();
        DUE.is("without run", x.depth(), 0);
        x.start();
        for (int k = 0; k < 11; k++) {
            DUE.is("depth() after " + k, x.depth(), k <= 5 ? k + 1 : 11 - k);
            x.run(1);
        }
        DUE.is("state()", x.state(), 1);
        DUE.is("at the end", x.depth(), 0);
        x.start();
        x.run(3);
        DUE.is("another run", x.depth(), 4);
        x.start();
        DUE.is("started anew", x.depth(), 1);
        x.compile();
        DUE.is("after compile()", x.depth(), 0);
        afterFault();
        DUE.end();
    }

    private static void afterFault() {
        FrameBackEnd x = Programs.started("FUNCTION 1 3", "SET 0 3", "CALL 1 0 0", "RETURN 0",
                "FUNCTION 1 3", "STORE 1 0 0", "RETURN 0");
        x.run(2);
        DUE.is("in function 1", x.depth(), 2);
        x.run(1);
        DUE.is("after a FAULT", x.depth(), 0);
    }
}
