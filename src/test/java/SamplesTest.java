import java.util.HashMap;
import java.util.List;
import java.util.Map;

/**
 * Programs that work out something whose answer is known. Each is done instruction by instruction, and beside it the
 * bytes that code(i) tells are done by a processor written from the document: the run is that of the code.
 */
public final class SamplesTest {
    private static final Due DUE = new Due("SamplesTest");
    private static final int ENDED = 1;
    private static final int FAULT = 2;
    private static final int MOST_RUN = 1000;
    private static final int MOST_DONE = 5000;

    public static void main(String[] args) {
        sample("product", product(), ENDED, words(123 * 200));
        sample("Fibonacci numbers", fibonacci(), ENDED, words(fibonacciNumbers(20)));
        sample("sum of squares", squares(), ENDED, words(385));
        sample("sorted bytes", sorted(), FAULT, 52, 64, 77, 104, 154, 160, 208);
        sample("bits", bits(), ENDED, words(0x1230, 0xff34, 0xed04, 0x2468));
        sample("six functions deep", deep(), ENDED, 6, 5, 4, 3, 2, 1);
        sample("an index that grows", growing(), FAULT, 0, 1, 2, 3);
        sample("a long branch ahead", ahead(), ENDED, words(67));
        sample("a long branch back", back(), ENDED, words(67));
        DUE.is("longs() of the branch ahead", Programs.compiled(ahead()).longs(), 1);
        DUE.is("longs() of the branch back", Programs.compiled(back()).longs(), 1);
        DUE.end();
    }

    private static int[] words(int... values) {
        int[] bytes = new int[2 * values.length];
        for (int k = 0; k < values.length; k++) {
            bytes[2 * k] = values[k] % 256;
            bytes[2 * k + 1] = values[k] / 256;
        }
        return bytes;
    }

    private static int[] fibonacciNumbers(int count) {
        int[] numbers = new int[count];
        numbers[1] = 1;
        for (int k = 2; k < count; k++) {
            numbers[k] = numbers[k - 1] + numbers[k - 2];
        }
        return numbers;
    }

    private static String[] product() {
        return Programs.lines("FUNCTION 2 1 1 2", "SET 3 123", "SET 1 200", "SET 2 1",
                "ZERO 1 7", "ADD 0 0 3", "SUB 1 1 2", "GOTO 3", "OUT 0", "RETURN 0");
    }

    private static String[] fibonacci() {
        return Programs.lines("FUNCTION 2 2 2 1 1 1", "SET 1 1", "SET 4 20", "SET 5 1",
                "OUT 0", "ADD 2 0 1", "MOVE 0 1", "MOVE 1 2", "ADD 3 3 5", "BELOW 3 4 3", "RETURN 0");
    }

    /** Function 1 adds its argument as often as it says, and finds its other variables as it left them. */
    private static String[] squares() {
        return Programs.lines("FUNCTION 1 2 2 1", "SET 0 10", "SET 3 1",
                "CALL 1 0 1", "ADD 2 2 1", "SUB 0 0 3", "ZERO 0 7", "GOTO 2", "OUT 2", "RETURN 2",
                "FUNCTION 1 2 1 1", "SET 3 1", "SET 1 0", "SET 2 0",
                "BELOW 2 0 5", "RETURN 1", "ADD 1 1 0", "ADD 2 2 3", "GOTO 3");
    }

    /** 77 and its doubles; neighbours are exchanged until all are in order; a FAULT ends the row of what is put out. */
    private static String[] sorted() {
        return Programs.lines("FUNCTION 7 1 1 1 1 1", "SET 5 1", "SET 3 77",
                "STORE 0 1 3", "DOUBLE 3", "ADD 1 1 5", "SET 4 7", "BELOW 1 4 2",
                "SET 1 0", "ADD 2 1 5", "LOAD 3 0 1", "LOAD 4 0 2", "BELOW 4 3 17",
                "MOVE 1 2", "SET 4 6", "BELOW 1 4 8", "SET 1 0", "GOTO 20",
                "STORE 0 1 4", "STORE 0 2 3", "GOTO 7",
                "LOAD 3 0 1", "OUT 3", "ADD 1 1 5", "GOTO 20");
    }

    private static String[] bits() {
        return Programs.lines("FUNCTION 2 2 2", "SET 0 " + 0x1234, "SET 1 " + 0xff30, "AND 2 0 1", "OUT 2",
                "OR 2 0 1", "OUT 2", "XOR 2 0 1", "OUT 2", "DOUBLE 0", "OUT 0", "RETURN 0");
    }

    private static String[] deep() {
        String[] lines = Programs.lines("FUNCTION 1 1 1", "SET 0 1", "SET 1 1", "ADD 2 0 1", "CALL 1 2 2", "OUT 0",
                "RETURN 0");
        for (int f = 1; f < 5; f++) {
            lines = Programs.join(lines, Programs.lines("FUNCTION 1 1 1", "SET 1 1", "ADD 2 0 1",
                    "CALL " + (f + 1) + " 2 2", "OUT 0", "RETURN 0"));
        }
        return Programs.join(lines, Programs.lines("FUNCTION 1", "OUT 0", "RETURN 0"));
    }

    private static String[] growing() {
        return Programs.lines("FUNCTION 4 1 1", "SET 2 1", "STORE 0 1 1", "OUT 1", "ADD 1 1 2", "GOTO 1");
    }

    /** 7 and ten times 3, 2 and 1. */
    private static String[] ahead() {
        return Programs.join(Programs.lines("FUNCTION 2 1 1", "SET 0 7", "SET 1 3", "SET 2 1", "ZERO 1 16"),
                Programs.times(10, "ADD 0 0 1"), Programs.lines("SUB 1 1 2", "GOTO 3", "OUT 0", "RETURN 0"));
    }

    private static String[] back() {
        return Programs.join(Programs.lines("FUNCTION 2 1 1 1", "SET 0 7", "SET 1 3", "SET 2 1"),
                Programs.times(10, "ADD 0 0 1"), Programs.lines("SUB 1 1 2", "BELOW 3 1 3", "OUT 0", "RETURN 0"));
    }

    private static void sample(String name, String[] program, int state, int... output) {
        DUE.by("makes bytes of code for a small processor, and runs that code");
        Map<Integer, Integer> labels = labels(program);
        Machine machine = new Machine(Bytes.of(Programs.compiled(program)));
        int done = 0;
        compare(name, program, machine, labels, done);
        while (machine.goesOn() && done < MOST_DONE) {
            performOne(machine, labels);
            done++;
            compare(name, program, machine, labels, done);
        }
        DUE.is(name + ", state()", after(program, done).state(), state);
        DUE.is(name + ", what was put out", outputOf(after(program, done)), java.util.Arrays.toString(output));
    }

    private static String outputOf(FrameBackEnd x) {
        int[] bytes = new int[x.output(-1)];
        for (int k = 0; k < bytes.length; k++) {
            bytes[k] = x.output(k);
        }
        return java.util.Arrays.toString(bytes);
    }

    /** Which instruction of the program begins where: 24 * function + instruction, by address. */
    private static Map<Integer, Integer> labels(String[] program) {
        FrameBackEnd x = Programs.compiled(program);
        Map<Integer, Integer> labels = new HashMap<>();
        for (int f = 0; x.base(f) >= 0; f++) {
            for (int i = 0; x.address(f, i) >= 0; i++) {
                labels.put(x.address(f, i), 24 * f + i);
            }
        }
        return labels;
    }

    private static void performOne(Machine machine, Map<Integer, Integer> labels) {
        do {
            machine.step();
        } while (machine.goesOn() && !labels.containsKey(machine.at));
    }

    private static FrameBackEnd after(String[] program, int done) {
        FrameBackEnd x = Programs.started(program);
        for (int left = done; left > 0; left -= MOST_RUN) {
            int n = Math.min(left, MOST_RUN);
            DUE.is("run(" + n + ")", x.run(n), n);
        }
        return x;
    }

    private static void compare(String name, String[] program, Machine machine, Map<Integer, Integer> labels,
            int done) {
        FrameBackEnd x = after(program, done);
        String what = name + " after " + done + ", ";
        boolean on = machine.goesOn();
        DUE.is(what + "state()", x.state(), machine.fault ? FAULT : machine.ended ? ENDED : 0);
        DUE.is(what + "spent()", x.spent(), machine.spent);
        DUE.is(what + "next()", x.next(), on ? labels.get(machine.at) : -1);
        DUE.is(what + "depth()", x.depth(), on ? machine.returns.size() + 1 : 0);
        List<Integer> output = machine.output;
        DUE.is(what + "output(-1)", x.output(-1), output.size());
        if (!output.isEmpty()) {
            DUE.is(what + "the latest byte", x.output(output.size() - 1), output.get(output.size() - 1));
        }
        if (on) {
            compareValues(what, x, machine.data);
        }
    }

    /** The frame is one row of bytes from its base on, variable behind variable. */
    private static void compareValues(String what, FrameBackEnd x, int[] data) {
        int at = x.base(x.next() / 24);
        for (int v = 0; x.value(v, 0) >= 0; v++) {
            for (int i = 0; x.value(v, i) >= 0; i++) {
                DUE.is(what + "value(" + v + ", " + i + ")", x.value(v, i), data[at]);
                at++;
            }
        }
    }
}
