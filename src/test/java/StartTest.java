/** Promise 11: start. */
public final class StartTest {
    private static final Due DUE = new Due("StartTest");

    public static void main(String[] args) {
        FrameBackEnd x = Programs.given("FUNCTION 1 2", "ADD 0 0 1", "SET 1 259", "OUT 1", "CALL 1 1 1", "RETURN 0",
                "FUNCTION 2", "OUT 0", "GOTO 0");
        DUE.is("start() before compile()", x.start(), false);
        DUE.is("state()", x.state(), -1);
        x.compile();
        DUE.is("no run after compile()", x.state(), -1);
        DUE.is("start()", x.start(), true);
        fresh(x);
        x.run(5);
        DUE.is("next() in function 1", x.next(), 25);
        DUE.is("start() in place of a run", x.start(), true);
        fresh(x);
        DUE.is("run(1)", x.run(1), 1);
        DUE.is("nothing was left in the data", x.value(0, 0), 0);
        x.function();
        DUE.is("start() without code", x.start(), false);
        DUE.is("run(1)", x.run(1), -1);
        afterTheEnd();
        afterFault();
        DUE.end();
    }

    private static void fresh(FrameBackEnd x) {
        DUE.is("state()", x.state(), 0);
        DUE.is("spent()", x.spent(), 0);
        DUE.is("next()", x.next(), 0);
        DUE.is("depth()", x.depth(), 1);
        DUE.is("output(-1)", x.output(-1), 0);
        DUE.is("output(0)", x.output(0), -1);
        DUE.is("value(0, 0)", x.value(0, 0), 0);
        DUE.is("value(1, 0)", x.value(1, 0), 0);
        DUE.is("value(1, 1)", x.value(1, 1), 0);
    }

    private static void afterTheEnd() {
        FrameBackEnd x = Programs.started("FUNCTION 1 2", "SET 0 1", "RETURN 0");
        x.run(2);
        DUE.is("state()", x.state(), 1);
        DUE.is("start()", x.start(), true);
        fresh(x);
    }

    private static void afterFault() {
        FrameBackEnd x = Programs.started("FUNCTION 1 2 3", "SET 0 3", "OUT 0", "LOAD 0 2 0", "RETURN 0");
        x.run(9);
        DUE.is("state()", x.state(), 2);
        DUE.is("start()", x.start(), true);
        fresh(x);
    }
}
