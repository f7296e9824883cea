import java.util.ArrayList;
import java.util.List;
import java.util.Random;

/**
 * All promises together: programs from fixed seeds, compared with the model. No object gets more than the 512 calls
 * that the document allows: the program is given to a new object for each thing that is compared.
 */
public final class RandomProgramsTest {
    private static final Due DUE = new Due("RandomProgramsTest");
    private static final int PROGRAMS = 6000;
    private static final int MOST_BRANCHES = 9;
    private static final int BYTES_AN_OBJECT = 300;

    private final Random random;
    private final Model model = new Model();
    /** The calls that give the program: how many numbers, these, and the answer that is due. */
    private final List<int[]> calls = new ArrayList<>();
    private final String name;
    private final boolean big;
    private final boolean roomy;
    private final boolean chained;
    private final boolean wild;
    private int total;
    private int deepest;

    private RandomProgramsTest(int seed) {
        random = new Random(seed);
        name = "seed " + seed + ": ";
        big = random.nextInt(3) == 0;
        roomy = random.nextInt(5) == 0;
        chained = random.nextInt(4) == 0;
        wild = random.nextInt(12) == 0;
    }

    public static void main(String[] args) {
        int[] answers = new int[7];
        int[] states = new int[3];
        int longs = 0;
        int deepest = 0;
        for (int seed = 0; seed < PROGRAMS && DUE.wrongCount() < 20; seed++) {
            RandomProgramsTest one = new RandomProgramsTest(seed);
            one.makeProgram();
            int answer = one.model.compile();
            answers[answer]++;
            one.compareCode(answer);
            if (answer == 0) {
                longs += one.model.longs;
                one.compareRuns();
                states[one.model.state]++;
                deepest = Math.max(deepest, one.deepest);
            }
            one.compareGrown();
        }
        for (int answer = 0; answer < answers.length; answer++) {
            DUE.is("programs with answer " + answer + " were met", answers[answer] > 20, true);
        }
        for (int state = 0; state < states.length; state++) {
            DUE.is("runs with state " + state + " were met", states[state] > 100, true);
        }
        DUE.is("long branches were met", longs > 150, true);
        DUE.is("six active functions were met", deepest, 6);
        DUE.end();
    }

    private void makeProgram() {
        int functions = 1 + random.nextInt(big ? 3 : 6);
        for (int f = 0; f < functions; f++) {
            calls.add(new int[] {0, f});
            model.functions.add(new Model.Function());
            makeVariables(roomy ? 6 : 1 + random.nextInt(6));
            int room = 60 - total - 2 * (functions - 1 - f);
            makeInstructions(f, functions, Math.min(room, big ? 14 + random.nextInt(11) : 2 + random.nextInt(7)));
        }
    }

    private Model.Function latest() {
        return model.functions.get(model.functions.size() - 1);
    }

    private void makeVariables(int count) {
        for (int v = 0; v < count; v++) {
            boolean array = roomy ? v > 1 : random.nextInt(3) == 0;
            int size = array ? 3 + random.nextInt(6) : 1 + random.nextInt(2);
            calls.add(new int[] {1, size, v});
            latest().sizes.add(size);
        }
    }

    private void makeInstructions(int f, int functions, int count) {
        int branches = 0;
        for (int i = 0; i < count; i++) {
            boolean last = i == count - 1 && random.nextInt(400) != 0;
            int op = last ? (random.nextInt(6) == 0 ? 10 : 14) : i == 0 && chained ? 13 : likelyOp();
            if ((op == 11 || op == 12) && branches == MOST_BRANCHES) {
                op = 15;
            }
            branches += op == 11 || op == 12 ? 1 : 0;
            makeInstruction(f, functions, count, op);
        }
    }

    private int likelyOp() {
        int op = random.nextInt(18);
        if (op >= 16) {
            return op - 8;
        }
        return (op == 10 || op == 14) && random.nextInt(4) != 0 ? 2 : op;
    }

    private void makeInstruction(int f, int functions, int count, int op) {
        int target = random.nextInt(800) == 0 ? count : random.nextInt(count);
        int callee = f + 1 + (chained ? 0 : random.nextInt(Math.max(1, functions - f - 1)));
        if (wild && random.nextInt(4) == 0) {
            callee = random.nextInt(functions + 1);
        } else if (op == 13 && callee >= functions) {
            op = 15;
        }
        int scalar = variable(1, 2);
        int index = variable(1, 1);
        int array = variable(3, 8);
        boolean lacks = op != 10 && scalar < 0 || (op == 8 || op == 9) && (array < 0 || index < 0);
        Model.Instruction one = switch (op) {
            case 0 -> new Model.Instruction(op, scalar, constant(), 7);
            case 8 -> new Model.Instruction(op, scalar, array, index);
            case 9 -> new Model.Instruction(op, array, index, scalar);
            case 10 -> new Model.Instruction(op, target, -5, 99);
            case 11 -> new Model.Instruction(op, scalar, target, 0);
            case 12 -> new Model.Instruction(op, scalar, variable(1, 2), target);
            case 13 -> new Model.Instruction(op, callee, scalar, variable(1, 2));
            default -> new Model.Instruction(op, scalar, variable(1, 2), variable(1, 2));
        };
        if (lacks) {
            // The function has no variables for it: the call is refused, and a GOTO stands in its place.
            calls.add(new int[] {4, one.op(), one.a(), one.b(), one.c(), -1});
            one = new Model.Instruction(10, target, 0, 0);
        }
        addInstruction(one);
    }

    private void addInstruction(Model.Instruction one) {
        calls.add(new int[] {4, one.op(), one.a(), one.b(), one.c(), latest().instructions.size()});
        latest().instructions.add(one);
        total++;
    }

    private int constant() {
        int kind = random.nextInt(4);
        return kind == 0 ? random.nextInt(65536) : random.nextInt(kind == 1 ? 10 : 4);
    }

    /** A variable of the latest function with a size between these; -1 if there is none. */
    private int variable(int least, int greatest) {
        int count = latest().sizes.size();
        int first = random.nextInt(count);
        for (int k = 0; k < count; k++) {
            int v = (first + k) % count;
            if (latest().sizes.get(v) >= least && latest().sizes.get(v) <= greatest) {
                return v;
            }
        }
        return -1;
    }

    private FrameBackEnd given() {
        FrameBackEnd x = new FrameBackEnd();
        for (int[] call : calls) {
            int want = call[call.length - 1];
            switch (call[0]) {
                case 0 -> DUE.is(name + "function()", x.function(), want);
                case 1 -> DUE.is(name + "variable(" + call[1] + ")", x.variable(call[1]), want);
                default -> DUE.is(name + "op(" + call[1] + ", ..)", x.op(call[1], call[2], call[3], call[4]), want);
            }
        }
        return x;
    }

    private void compareCode(int answer) {
        FrameBackEnd x = given();
        DUE.is(name + "compile()", x.compile(), answer);
        compareLayout(x, answer == 0);
        int size = answer == 0 ? model.bytes.size() : 0;
        for (int first = 0; first < size; first += BYTES_AN_OBJECT) {
            FrameBackEnd y = given();
            y.compile();
            for (int i = first; i < first + BYTES_AN_OBJECT && i <= size; i++) {
                DUE.is(name + "code(" + i + ")", y.code(i), i < size ? model.bytes.get(i) : -1);
            }
        }
    }

    private void compareLayout(FrameBackEnd x, boolean made) {
        DUE.is(name + "length()", x.length(), made ? model.bytes.size() : 0);
        DUE.is(name + "longs()", x.longs(), made ? model.longs : 0);
        DUE.is(name + "state()", x.state(), -1);
        for (int f = 0; f <= model.functions.size(); f++) {
            boolean there = made && f < model.functions.size();
            DUE.is(name + "base(" + f + ")", x.base(f), there ? model.functions.get(f).base : -1);
            int count = there ? model.addresses.get(f).size() : 0;
            for (int i = 0; i <= count; i++) {
                int want = i < count ? model.addresses.get(f).get(i) : -1;
                DUE.is(name + "address(" + f + ", " + i + ")", x.address(f, i), want);
            }
        }
    }

    private void compareRuns() {
        FrameBackEnd x = given();
        x.compile();
        for (int time = 0; time < 2; time++) {
            DUE.is(name + "start()", x.start(), true);
            model.start();
            compareRun(x);
            for (int k = 0; k < 8; k++) {
                int n = k == 7 ? 1000 : random.nextInt(8);
                DUE.is(name + "run(" + n + ")", x.run(n), model.run(n));
                compareRun(x);
                deepest = Math.max(deepest, model.state == 0 ? model.active.size() : 0);
            }
        }
    }

    private void compareRun(FrameBackEnd x) {
        DUE.is(name + "state()", x.state(), model.state);
        DUE.is(name + "spent()", x.spent(), model.spent);
        DUE.is(name + "next()", x.next(), model.next());
        DUE.is(name + "depth()", x.depth(), model.state == 0 ? model.active.size() : 0);
        DUE.is(name + "output(-1)", x.output(-1), model.output.size());
        for (int k = 0; k < 5; k++) {
            int put = model.output.size();
            int which = put - 2 * k;
            int want = which >= 0 && which < put && which < 100 ? model.output.get(which) : -1;
            DUE.is(name + "output(" + which + ")", which == -1 ? -1 : x.output(which), want);
        }
        for (int k = 0; k < 8; k++) {
            int v = random.nextInt(7) - (k == 0 ? 1 : 0);
            int i = random.nextInt(k < 4 ? 2 : 8);
            DUE.is(name + "value(" + v + ", " + i + ")", x.value(v, i), value(v, i));
        }
    }

    private int value(int v, int i) {
        if (model.state != 0) {
            return -1;
        }
        Model.Function function = model.functions.get(model.next() / 24);
        boolean there = v >= 0 && v < function.sizes.size() && i < function.sizes.get(v);
        return there ? model.data[function.base + function.offset(v) + i] : -1;
    }

    /** Code is made anew of a program that has grown: nothing of the code before may be left in it. */
    private void compareGrown() {
        if (latest().instructions.size() >= 24 || total >= 60) {
            return;
        }
        FrameBackEnd x = given();
        x.compile();
        x.start();
        DUE.is(name + "op(10, 0, 0, 0)", x.op(10, 0, 0, 0), latest().instructions.size());
        addInstruction(new Model.Instruction(10, 0, 0, 0));
        compareLayout(x, false);
        int answer = model.compile();
        DUE.is(name + "compile()", x.compile(), answer);
        compareLayout(x, answer == 0);
    }
}
