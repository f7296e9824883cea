import java.util.ArrayList;
import java.util.List;

/**
 * "An accepted call of function(), variable() or op() takes away the code and the run, if there are any": behind it
 * an object must answer like one that got the same program, but never had code or a run. compile() and start() are
 * held against objects that had no code or run before, too.
 */
public final class TakenAwayTest {
    private static final Due DUE = new Due("TakenAwayTest");

    private static final List<List<Call>> LIVES = List.of(
            List.of(),
            List.of(Call.start()),
            List.of(Call.run(1)),
            List.of(Call.op(14, 0, 0, 0), Call.compile(), Call.start(), Call.run(5)));

    public static void main(String[] args) {
        accepted();
        compileAgain();
        startAgain();
        compileInVain();
        DUE.end();
    }

    private static void accepted() {
        DUE.by("An accepted call of function(), variable() or op() takes away the code and the run, if there are any.");
        for (State state : State.withProgram()) {
            for (Call call : acceptedCalls()) {
                for (List<Call> life : LIVES) {
                    String want = lived(state.given(), call, life);
                    DUE.is(state.name() + ", behind " + call.name(), lived(state.made(), call, life), want);
                }
                FrameBackEnd x = state.made();
                DUE.is(call.name() + " is accepted", call.on(x) >= 0, true);
                isWithoutCode(x);
            }
        }
    }

    private static String lived(FrameBackEnd x, Call call, List<Call> life) {
        StringBuilder text = new StringBuilder(call.name()).append(' ').append(call.on(x)).append(' ');
        for (Call later : life) {
            text.append(later.name()).append(' ').append(later.on(x)).append(' ');
        }
        return text + Answers.of(x);
    }

    /** For a latest function with a BYTE 0, a WIDE 1 and an ARRAY 2: each instruction once. */
    private static List<Call> acceptedCalls() {
        List<Call> all = new ArrayList<>(List.of(Call.function(), Call.variable(1), Call.variable(2),
                Call.variable(3), Call.variable(8)));
        all.addAll(List.of(Call.op(0, 0, 65535, -1), Call.op(8, 1, 2, 0), Call.op(9, 2, 0, 1), Call.op(10, -9, 0, 0)));
        for (int op = 1; op < 16; op++) {
            if (op < 8 || op > 10) {
                all.add(Call.op(op, 0, 1, 0));
            }
        }
        return all;
    }

    private static void isWithoutCode(FrameBackEnd x) {
        DUE.is("length()", x.length(), 0);
        DUE.is("code(0)", x.code(0), -1);
        DUE.is("longs()", x.longs(), 0);
        DUE.is("base(0)", x.base(0), -1);
        DUE.is("address(0, 0)", x.address(0, 0), -1);
        DUE.is("state()", x.state(), -1);
        DUE.is("spent()", x.spent(), 0);
        DUE.is("next()", x.next(), -1);
        DUE.is("depth()", x.depth(), 0);
        DUE.is("value(0, 0)", x.value(0, 0), -1);
        DUE.is("output(-1)", x.output(-1), 0);
        DUE.is("output(0)", x.output(0), -1);
        DUE.is("run(0)", x.run(0), -1);
        DUE.is("start()", x.start(), false);
    }

    private static void compileAgain() {
        DUE.by("Makes the code, in place of what was there, and there is no run: 0.");
        for (State state : State.withCode()) {
            FrameBackEnd first = state.given();
            DUE.is("compile()", first.compile(), 0);
            FrameBackEnd again = state.made();
            DUE.is("compile(), " + state.name(), again.compile(), 0);
            DUE.is("behind compile(), " + state.name(), Answers.of(again), Answers.of(first));
            DUE.is("state()", again.state(), -1);
        }
    }

    private static void startAgain() {
        DUE.by("Begins a run, in place of one that there was: all data are 0, nothing is put out, the first"
                + " instruction is that of function 0.");
        for (State state : State.withCode()) {
            for (int n = 0; n < 7; n++) {
                FrameBackEnd first = state.given();
                first.compile();
                DUE.is("start()", first.start(), true);
                FrameBackEnd again = state.made();
                DUE.is("start(), " + state.name(), again.start(), true);
                DUE.is("run(" + n + ")", again.run(n), first.run(n));
                DUE.is("behind start(), " + state.name(), Answers.of(again), Answers.of(first));
            }
        }
    }

    private static void compileInVain() {
        DUE.by("Otherwise there is no code and no run");
        for (State state : State.withCode()) {
            FrameBackEnd x = state.made();
            DUE.is("a wrong target", x.op(10, 24, 0, 0) >= 0, true);
            DUE.is("compile()", x.compile(), 2);
            isWithoutCode(x);
            DUE.is("compile() again", x.compile(), 2);
            isWithoutCode(x);
        }
    }
}
