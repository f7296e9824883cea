import java.util.function.ToIntFunction;

/** A call that changes an object, with its name and what it answers if it is refused; start() answers 1 or 0. */
record Call(String name, int refusal, ToIntFunction<FrameBackEnd> made) {
    int on(FrameBackEnd x) {
        return made.applyAsInt(x);
    }

    static Call function() {
        return new Call("function()", -1, FrameBackEnd::function);
    }

    static Call variable(int size) {
        return new Call("variable(" + size + ")", -1, x -> x.variable(size));
    }

    static Call op(int op, int a, int b, int c) {
        return new Call("op(" + op + ", " + a + ", " + b + ", " + c + ")", -1, x -> x.op(op, a, b, c));
    }

    static Call compile() {
        return new Call("compile()", -1, FrameBackEnd::compile);
    }

    static Call start() {
        return new Call("start()", 0, x -> x.start() ? 1 : 0);
    }

    static Call run(int n) {
        return new Call("run(" + n + ")", -1, x -> x.run(n));
    }
}
