import java.util.Random;

/**
 * Any calls in any order, from fixed seeds: all 512 that an object has, with right and wrong arguments, each compared
 * with the face over the model. So what is refused, taken away or begun anew in the midst of other calls is as due.
 */
public final class RandomCallsTest {
    private static final Due DUE = new Due("RandomCallsTest");
    private static final int OBJECTS = 4000;
    private static final int CALLS = 512;
    private static final int MOST_AT_ONCE = 3;
    /** The model tries all choices of long branches, so a function gets no more branches than these. */
    private static final int MOST_BRANCHES = 7;
    private static final int[] STRANGE = {-2, -1, 6, 7, 8, 9, 16, 23, 24, 25, 60, 100, 499, 500, 1000, 1001, 65535,
        65536, Integer.MAX_VALUE, Integer.MIN_VALUE};

    private static int ended;
    private static int faults;
    private static int longs;
    private static int refused;
    private static final int[] COMPILED = new int[7];

    private final Random random;
    private final FrameBackEnd x = new FrameBackEnd();
    private final ModelFace model = new ModelFace();
    private final String name;
    private final int functions;
    private final int likelyLength;
    private final boolean roomy;
    /** The sizes of the variables of the latest function, and what it has. */
    private final int[] sizes = new int[6];
    private int variables;
    private int instructions;
    private int branches;
    private int begun;
    private int made;

    private RandomCallsTest(int seed) {
        random = new Random(seed);
        name = "seed " + seed + ", call ";
        functions = 1 + random.nextInt(6);
        roomy = random.nextInt(4) == 0;
        likelyLength = 2 + random.nextInt(random.nextBoolean() ? 6 : 22);
    }

    public static void main(String[] args) {
        for (int seed = 0; seed < OBJECTS && DUE.wrongCount() < 20; seed++) {
            new RandomCallsTest(seed).go();
        }
        for (int answer = 0; answer < COMPILED.length; answer++) {
            DUE.is("compile() answered " + answer + " often", COMPILED[answer] > 100, true);
        }
        DUE.is("runs ended", ended > 1000, true);
        DUE.is("there were faults", faults > 100, true);
        DUE.is("there were long branches", longs > 100, true);
        DUE.is("calls were refused", refused > 10000, true);
        DUE.end();
    }

    private void go() {
        while (made < CALLS) {
            int kind = random.nextInt(100);
            if (made + MOST_AT_ONCE > CALLS) {
                askCode();
            } else if (kind < 30) {
                give();
            } else if (kind < 33) {
                giveWrong();
            } else if (kind < 38) {
                finishAndCompile();
            } else if (kind < 60) {
                askCode();
            } else if (kind < 63) {
                is("start()", x.start() ? 1 : 0, model.start() ? 1 : 0);
            } else {
                runAndAsk();
            }
        }
    }

    private void is(String call, int got, int want) {
        made++;
        refused += want == -1 ? 1 : 0;
        DUE.is(name + made + ": " + call, got, want);
    }

    private int strange() {
        return STRANGE[random.nextInt(STRANGE.length)];
    }

    /** Mostly below the bound, sometimes any number. */
    private int argument(int bound) {
        return random.nextInt(12) == 0 ? strange() : random.nextInt(Math.max(1, bound));
    }

    private void give() {
        boolean full = instructions >= likelyLength;
        if (begun == 0 || full && begun < functions && isFinished()) {
            function();
        } else if (variables < 2 || variables < 6 && random.nextInt(roomy ? 1 : 8) == 0) {
            boolean array = roomy ? variables > 0 : random.nextInt(3) == 0;
            variable(array ? 3 + random.nextInt(6) : 1 + random.nextInt(2));
        } else if (!full) {
            op(roomy && random.nextInt(4) == 0 ? 13 : random.nextInt(16));
        }
    }

    private boolean isFinished() {
        op(random.nextInt(4) == 0 ? 10 : 14);
        return random.nextInt(10) != 0;
    }

    private void function() {
        int number = model.function();
        is("function()", x.function(), number);
        if (number >= 0) {
            begun++;
            variables = 0;
            instructions = 0;
            branches = 0;
        }
    }

    private void variable(int size) {
        int number = model.variable(size);
        is("variable(" + size + ")", x.variable(size), number);
        if (number >= 0) {
            sizes[number] = size;
            variables = number + 1;
        }
    }

    private int likely(int least, int greatest) {
        for (int tries = 0; tries < 10; tries++) {
            int v = random.nextInt(Math.max(1, variables));
            if (variables > 0 && sizes[v] >= least && sizes[v] <= greatest) {
                return v;
            }
        }
        return argument(variables);
    }

    private int target() {
        return random.nextInt(60) == 0 ? strange() : random.nextInt(Math.max(instructions + 1, likelyLength));
    }

    private int callee() {
        int kind = random.nextInt(60);
        return kind == 0 ? strange() : kind < 4 ? random.nextInt(6) : begun;
    }

    private void op(int likelyOp) {
        int op = likelyOp == 13 && begun >= functions ? 9 : likelyOp;
        if ((op == 11 || op == 12) && branches >= MOST_BRANCHES) {
            op = 2;
        }
        int s = likely(1, 2);
        switch (op) {
            case 0 -> op(op, s, random.nextBoolean() ? random.nextInt(5) : argument(65536), strange());
            case 8 -> op(op, s, likely(3, 8), likely(1, 1));
            case 9 -> op(op, likely(3, 8), likely(1, 1), s);
            case 10 -> op(op, target(), strange(), strange());
            case 11 -> op(op, s, target(), strange());
            case 12 -> op(op, s, likely(1, 2), target());
            case 13 -> op(op, callee(), s, likely(1, 2));
            default -> op(op, s, likely(1, 2), likely(1, 2));
        }
    }

    private void op(int op, int a, int b, int c) {
        int number = model.op(op, a, b, c);
        is("op(" + op + ", " + a + ", " + b + ", " + c + ")", x.op(op, a, b, c), number);
        if (number >= 0) {
            instructions = number + 1;
            branches += op == 11 || op == 12 ? 1 : 0;
        }
    }

    private void giveWrong() {
        switch (random.nextInt(3)) {
            case 0 -> variable(strange());
            case 1 -> op(strange(), 0, 0, 0);
            default -> op(random.nextInt(10), argument(8), argument(8), argument(8));
        }
    }

    private void finishAndCompile() {
        if (random.nextInt(3) != 0 && begun > 0) {
            op(random.nextInt(4) == 0 ? 10 : 14);
        }
        int answer = model.compile();
        is("compile()", x.compile(), answer);
        COMPILED[answer]++;
        longs += model.longs();
        if (random.nextInt(8) != 0) {
            is("start()", x.start() ? 1 : 0, model.start() ? 1 : 0);
        }
    }

    private void askCode() {
        int f = argument(begun);
        int i = argument(24);
        int at = argument(model.length() + 1);
        switch (random.nextInt(6)) {
            case 0 -> is("length()", x.length(), model.length());
            case 1 -> is("longs()", x.longs(), model.longs());
            case 2 -> is("base(" + f + ")", x.base(f), model.base(f));
            case 3 -> is("address(" + f + ", " + i + ")", x.address(f, i), model.address(f, i));
            default -> is("code(" + at + ")", x.code(at), model.code(at));
        }
    }

    private void runAndAsk() {
        int v = argument(6);
        int i = argument(3);
        int k = random.nextInt(3) == 0 ? -1 : argument(1 + model.output(-1));
        switch (random.nextInt(10)) {
            case 0, 1 -> run(random.nextInt(4) == 0 ? argument(1001) : random.nextInt(6));
            case 2 -> is("state()", x.state(), model.state());
            case 3 -> is("spent()", x.spent(), model.spent());
            case 4 -> is("next()", x.next(), model.next());
            case 5 -> is("depth()", x.depth(), model.depth());
            case 6, 7 -> is("value(" + v + ", " + i + ")", x.value(v, i), model.value(v, i));
            default -> is("output(" + k + ")", x.output(k), model.output(k));
        }
    }

    private void run(int n) {
        int before = model.state();
        is("run(" + n + ")", x.run(n), model.run(n));
        ended += before == 0 && model.state() == 1 ? 1 : 0;
        faults += before == 0 && model.state() == 2 ? 1 : 0;
    }
}
