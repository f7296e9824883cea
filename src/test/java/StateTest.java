/** Promise 13: state. */
public final class StateTest {
    private static final Due DUE = new Due("StateTest");

    public static void main(String[] args) {
        FrameBackEnd x = Programs.given("FUNCTION 1 3", "CALL 1 0 0", "LOAD 0 1 0", "RETURN 0",
                "FUNCTION 1 3", "LOAD 0 1 0", "RETURN 0");
        DUE.is("without code", x.state(), -1);
        x.compile();
        DUE.is("without run", x.state(), -1);
        x.start();
        DUE.is("at the start", x.state(), 0);
        x.run(3);
        DUE.is("after the RETURN of function 1", x.state(), 0);
        x.run(1);
        DUE.is("before the last RETURN", x.state(), 0);
        x.run(1);
        DUE.is("at the end", x.state(), 1);
        x.run(1);
        DUE.is("it stays", x.state(), 1);
        DUE.is("refused", x.variable(0), -1);
        DUE.is("it stays", x.state(), 1);
        x.start();
        DUE.is("another run", x.state(), 0);
        x.compile();
        DUE.is("after compile()", x.state(), -1);
        faults();
        DUE.end();
    }

    private static void faults() {
        FrameBackEnd load = Programs.started("FUNCTION 1 3", "SET 0 3", "LOAD 0 1 0", "RETURN 0");
        load.run(1);
        DUE.is("before LOAD", load.state(), 0);
        load.run(1);
        DUE.is("after LOAD", load.state(), 2);
        load.run(1);
        DUE.is("it stays", load.state(), 2);
        FrameBackEnd store = Programs.started("FUNCTION 1 8", "SET 0 8", "STORE 1 0 0", "RETURN 0");
        store.run(2);
        DUE.is("after STORE", store.state(), 2);
        FrameBackEnd deep = Programs.started("FUNCTION 1", "SET 0 255", "CALL 1 0 0", "RETURN 0",
                "FUNCTION 1 8", "STORE 1 0 0", "RETURN 0");
        deep.run(10);
        DUE.is("in function 1", deep.state(), 2);
        deep.op(14, 0, 0, 0);
        DUE.is("after op()", deep.state(), -1);
    }
}
