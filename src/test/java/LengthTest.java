/** Promise 6: length. */
public final class LengthTest {
    private static final Due DUE = new Due("LengthTest");

    public static void main(String[] args) {
        DUE.is("without functions", new FrameBackEnd().length(), 0);
        FrameBackEnd x = Programs.given("FUNCTION", "GOTO 0");
        DUE.is("before compile()", x.length(), 0);
        x.compile();
        DUE.is("JMP", x.length(), 3);
        x.compile();
        DUE.is("after a second compile()", x.length(), 3);
        x.start();
        x.run(10);
        DUE.is("during a run", x.length(), 3);
        Programs.give(x, "FUNCTION 1", "OUT 0", "RETURN 0");
        DUE.is("after new functions", x.length(), 0);
        x.compile();
        DUE.is("both functions", x.length(), 3 + 12);
        Programs.give(x, "GOTO 7");
        x.compile();
        DUE.is("after a wrong target", x.length(), 0);
        DUE.end();
    }
}
