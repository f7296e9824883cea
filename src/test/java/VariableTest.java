/** Promise 3: variable. */
public final class VariableTest {
    private static final Due DUE = new Due("VariableTest");

    public static void main(String[] args) {
        sizes();
        limit();
        acceptedTakesCodeAway();
        refusedChangesNothing();
        DUE.end();
    }

    private static void sizes() {
        FrameBackEnd x = new FrameBackEnd();
        DUE.is("variable(1) without function", x.variable(1), -1);
        x.function();
        int[] wrong = {0, -1, 9, 10, Integer.MAX_VALUE, Integer.MIN_VALUE};
        for (int size : wrong) {
            DUE.is("variable(" + size + ")", x.variable(size), -1);
        }
        int[] right = {1, 2, 3, 4, 7, 8};
        for (int k = 0; k < right.length; k++) {
            DUE.is("variable(" + right[k] + ")", x.variable(right[k]), k);
        }
        Programs.give(x, "RETURN 0");
        x.compile();
        x.start();
        for (int k = 0; k < right.length; k++) {
            DUE.is("last byte of " + k, x.value(k, right[k] - 1), 0);
            DUE.is("behind it", x.value(k, right[k]), -1);
        }
    }

    private static void limit() {
        FrameBackEnd x = Programs.given("FUNCTION 1 1 1 1 1 1");
        DUE.is("seventh variable", x.variable(1), -1);
        x.function();
        DUE.is("variable(8) of the next function", x.variable(8), 0);
        DUE.is("variable(1)", x.variable(1), 1);
    }

    private static void acceptedTakesCodeAway() {
        FrameBackEnd x = Programs.started("FUNCTION 1", "RETURN 0");
        DUE.is("variable(1)", x.variable(1), 1);
        DUE.is("length()", x.length(), 0);
        DUE.is("base(0)", x.base(0), -1);
        DUE.is("state()", x.state(), -1);
        DUE.is("compile()", x.compile(), 0);
        DUE.is("length()", x.length(), 11);
    }

    private static void refusedChangesNothing() {
        FrameBackEnd x = Programs.started("FUNCTION 1", "OUT 0", "RETURN 0");
        x.run(1);
        DUE.is("variable(9)", x.variable(9), -1);
        DUE.is("length()", x.length(), 12);
        DUE.is("state()", x.state(), 0);
        DUE.is("output(-1)", x.output(-1), 1);
        DUE.is("variable(2) gets the next number", x.variable(2), 1);
    }
}
