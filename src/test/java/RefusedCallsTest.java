import java.util.ArrayList;
import java.util.List;

/**
 * "A call that is refused changes nothing": each sort of refused call is made in each state that an object can be in,
 * and whatever is called and asked behind it must be answered as by an object to which it was not made.
 */
public final class RefusedCallsTest {
    private static final Due DUE = new Due("RefusedCallsTest");
    private static final int LEAST = Integer.MIN_VALUE;
    private static final int GREATEST = Integer.MAX_VALUE;

    /** What may come behind the refused call; in many states some of these calls are refused themselves. */
    private static final List<List<Call>> LIVES = List.of(
            List.of(),
            List.of(Call.run(1)),
            List.of(Call.run(1000)),
            List.of(Call.start(), Call.run(3)),
            List.of(Call.compile(), Call.start(), Call.run(4)),
            List.of(Call.variable(2), Call.op(0, 1, 770, 0), Call.op(14, 1, 0, 0), Call.compile(), Call.start(),
                    Call.run(4)),
            List.of(Call.function(), Call.variable(1), Call.op(7, 0, 0, 0), Call.op(14, 0, 0, 0), Call.compile(),
                    Call.start(), Call.run(1000)));

    public static void main(String[] args) {
        DUE.by("A call that is refused changes nothing.");
        withoutFunction();
        withoutVariables();
        for (State state : State.withProgram()) {
            changeNothing(state, wrongArguments());
        }
        withoutCode();
        withRun();
        full();
        DUE.end();
    }

    private static void changeNothing(State state, List<Call> refused) {
        for (List<Call> life : LIVES) {
            String want = lived(state, List.of(), life);
            for (Call call : refused) {
                DUE.is(state.name() + ", behind " + call.name(), lived(state, List.of(call), life), want);
            }
            DUE.is(state.name() + ", behind all", lived(state, refused, life), want);
        }
    }

    private static String lived(State state, List<Call> refused, List<Call> life) {
        FrameBackEnd x = state.made();
        for (Call call : refused) {
            DUE.is(state.name() + ", " + call.name(), call.on(x), call.refusal());
        }
        StringBuilder text = new StringBuilder();
        for (Call call : life) {
            text.append(call.name()).append(' ').append(call.on(x)).append(' ');
        }
        return text + Answers.of(x);
    }

    private static void withoutFunction() {
        changeNothing(State.fresh(), List.of(Call.variable(1), Call.variable(8), Call.variable(0),
                Call.op(10, 0, 0, 0), Call.op(14, 0, 0, 0), Call.op(16, 0, 0, 0),
                Call.start(), Call.run(0), Call.run(1), Call.run(-1), Call.run(1001)));
    }

    private static void withoutVariables() {
        List<Call> refused = new ArrayList<>(wrongSizes());
        for (int op = 0; op < 16; op++) {
            if (op != 10) {
                refused.add(Call.op(op, 0, 0, 0));
            }
        }
        changeNothing(State.empty(), refused);
    }

    private static void withoutCode() {
        List<Call> refused = List.of(Call.start(), Call.run(0), Call.run(1), Call.run(1000));
        changeNothing(State.empty(), refused);
        for (State state : State.withoutCode()) {
            changeNothing(state, refused);
        }
        changeNothing(State.compiled(), List.of(Call.run(0), Call.run(1), Call.run(1000)));
    }

    private static void withRun() {
        for (State state : State.withRun()) {
            changeNothing(state, wrongCounts());
        }
    }

    private static void full() {
        List<Call> variables = List.of(Call.variable(1), Call.variable(2), Call.variable(8));
        changeNothing(State.full("six functions", "1 2 3", 3, 1, 1, 1, 1, 2), List.of(Call.function()));
        changeNothing(State.full("six variables", "1 2 3 1 2 8", 3, 2), variables);
        changeNothing(State.full("24 instructions", "1 2 3", 3, 24), rightInstructions());
        changeNothing(State.full("60 instructions", "1 2 3", 24, 24, 12), rightInstructions());
        List<Call> all = new ArrayList<>(rightInstructions());
        all.addAll(variables);
        all.add(Call.function());
        all.addAll(wrongCounts());
        changeNothing(State.full("all", "1 2 3 1 1 1", 3, 8, 8, 8, 9, 24), all);
    }

    private static List<Call> rightInstructions() {
        return List.of(Call.op(0, 0, 1, 0), Call.op(2, 1, 0, 1), Call.op(8, 0, 2, 0), Call.op(9, 2, 0, 0),
                Call.op(10, 0, 0, 0), Call.op(13, 0, 0, 0), Call.op(14, 0, 0, 0));
    }

    private static List<Call> wrongCounts() {
        return List.of(Call.run(-1), Call.run(1001), Call.run(LEAST), Call.run(GREATEST));
    }

    private static List<Call> wrongSizes() {
        return List.of(Call.variable(0), Call.variable(-1), Call.variable(9), Call.variable(LEAST),
                Call.variable(GREATEST));
    }

    /** For a latest function with a BYTE 0, a WIDE 1 and an ARRAY 2. */
    private static List<Call> wrongArguments() {
        List<Call> all = new ArrayList<>(wrongSizes());
        all.addAll(List.of(Call.op(-1, 0, 0, 0), Call.op(16, 0, 0, 0), Call.op(LEAST, 0, 0, 0),
                Call.op(GREATEST, 0, 0, 0)));
        all.addAll(List.of(Call.op(0, 2, 1, 0), Call.op(0, 3, 1, 0), Call.op(0, -1, 1, 0), Call.op(0, 0, -1, 0),
                Call.op(0, 0, 65536, 0), Call.op(0, 1, LEAST, 0), Call.op(0, 1, GREATEST, 0)));
        all.addAll(List.of(Call.op(1, 2, 0, 0), Call.op(1, 0, 2, 0), Call.op(1, 0, 3, 0), Call.op(1, GREATEST, 0, 0)));
        for (int op = 2; op <= 6; op++) {
            all.addAll(List.of(Call.op(op, 2, 0, 0), Call.op(op, 0, 2, 0), Call.op(op, 0, 0, 2),
                    Call.op(op, 0, 0, 3), Call.op(op, 0, 0, LEAST)));
        }
        all.addAll(List.of(Call.op(7, 2, 0, 0), Call.op(7, 3, 0, 0), Call.op(7, -1, 0, 0)));
        all.addAll(List.of(Call.op(8, 2, 2, 0), Call.op(8, 0, 1, 0), Call.op(8, 0, 2, 1), Call.op(8, 0, 2, 2),
                Call.op(8, 0, 3, 0), Call.op(9, 1, 0, 0), Call.op(9, 2, 1, 0), Call.op(9, 2, 0, 2),
                Call.op(9, 2, 0, 3), Call.op(9, 3, 0, 0)));
        all.addAll(List.of(Call.op(11, 2, 0, 0), Call.op(11, 3, 0, 0), Call.op(12, 2, 0, 0), Call.op(12, 0, 2, 0),
                Call.op(13, 0, 2, 0), Call.op(13, 0, 0, 2), Call.op(13, 0, 3, 0), Call.op(13, 0, 0, -1)));
        all.addAll(List.of(Call.op(14, 2, 0, 0), Call.op(14, 3, 0, 0), Call.op(15, 2, 0, 0), Call.op(15, 6, 0, 0)));
        return all;
    }
}
