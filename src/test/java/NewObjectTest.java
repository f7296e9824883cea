/** Promise 1: a new object has no functions, no code and no run. */
public final class NewObjectTest {
    private static final Due DUE = new Due("NewObjectTest");

    public static void main(String[] args) {
        FrameBackEnd x = new FrameBackEnd();
        answersNothing(x);
        DUE.is("variable(1)", x.variable(1), -1);
        DUE.is("op(10, 0, 0, 0)", x.op(10, 0, 0, 0), -1);
        DUE.is("compile()", x.compile(), 1);
        answersNothing(x);
        DUE.is("function()", x.function(), 0);
        objectsAreApart();
        DUE.end();
    }

    private static void answersNothing(FrameBackEnd x) {
        DUE.is("length()", x.length(), 0);
        DUE.is("code(0)", x.code(0), -1);
        DUE.is("longs()", x.longs(), 0);
        DUE.is("base(0)", x.base(0), -1);
        DUE.is("address(0, 0)", x.address(0, 0), -1);
        DUE.is("start()", x.start(), false);
        DUE.is("run(0)", x.run(0), -1);
        DUE.is("state()", x.state(), -1);
        DUE.is("spent()", x.spent(), 0);
        DUE.is("next()", x.next(), -1);
        DUE.is("depth()", x.depth(), 0);
        DUE.is("value(0, 0)", x.value(0, 0), -1);
        DUE.is("output(-1)", x.output(-1), 0);
        DUE.is("output(0)", x.output(0), -1);
    }

    private static void objectsAreApart() {
        FrameBackEnd one = Programs.started("FUNCTION 1", "SET 0 7", "OUT 0", "RETURN 0");
        one.run(2);
        FrameBackEnd other = new FrameBackEnd();
        answersNothing(other);
        DUE.is("function() of the other", other.function(), 0);
        DUE.is("output(0) of the one", one.output(0), 7);
    }
}
