/** Promise 2: function. */
public final class FunctionTest {
    private static final Due DUE = new Due("FunctionTest");

    public static void main(String[] args) {
        numbersAndLimit();
        whatComesIsTheLatest();
        acceptedTakesCodeAway();
        refusedChangesNothing();
        DUE.end();
    }

    private static void numbersAndLimit() {
        FrameBackEnd x = new FrameBackEnd();
        for (int f = 0; f < 6; f++) {
            DUE.is("function()", x.function(), f);
        }
        DUE.is("seventh function()", x.function(), -1);
        DUE.is("eighth function()", x.function(), -1);
        DUE.is("the sixth is still the latest", x.variable(3), 0);
    }

    private static void whatComesIsTheLatest() {
        FrameBackEnd x = Programs.given("FUNCTION 1 2", "RETURN 0");
        DUE.is("function()", x.function(), 1);
        DUE.is("a variable of function 0", x.op(14, 0, 0, 0), -1);
        DUE.is("variable(2)", x.variable(2), 0);
        DUE.is("op(14, 0, 0, 0)", x.op(14, 0, 0, 0), 0);
        DUE.is("compile()", x.compile(), 0);
        DUE.is("address(1, 0)", x.address(1, 0), 11);
        DUE.is("address(0, 1)", x.address(0, 1), -1);
    }

    private static void acceptedTakesCodeAway() {
        FrameBackEnd x = Programs.started("FUNCTION 1", "OUT 0", "RETURN 0");
        x.run(1);
        DUE.is("function()", x.function(), 1);
        DUE.is("length()", x.length(), 0);
        DUE.is("code(0)", x.code(0), -1);
        DUE.is("state()", x.state(), -1);
        DUE.is("spent()", x.spent(), 0);
        DUE.is("output(-1)", x.output(-1), 0);
        DUE.is("output(0)", x.output(0), -1);
        DUE.is("start()", x.start(), false);
        DUE.is("compile() with an empty function", x.compile(), 1);
    }

    private static void refusedChangesNothing() {
        FrameBackEnd x = Programs.given("FUNCTION 1", "OUT 0", "RETURN 0");
        for (int f = 1; f < 6; f++) {
            Programs.give(x, "FUNCTION 1", "RETURN 0");
        }
        x.compile();
        x.start();
        x.run(1);
        DUE.is("seventh function()", x.function(), -1);
        DUE.is("length()", x.length(), 5 * 11 + 12);
        DUE.is("state()", x.state(), 0);
        DUE.is("spent()", x.spent(), 2);
        DUE.is("next()", x.next(), 1);
    }
}
