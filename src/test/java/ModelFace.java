import java.util.List;

/**
 * The face of the class over the model: any calls in any order can be made on both, and their answers compared. It is
 * public because ReadmeTest uses it from a class that it compiles itself.
 */
public final class ModelFace {
    /** The arguments of each instruction: s a scalar, b a BYTE, t an ARRAY, k a constant, any other of no meaning. */
    private static final List<String> ARGUMENTS = List.of("sk-", "ss-", "sss", "sss", "sss", "sss", "sss", "s--",
            "stb", "tbs", "l--", "sl-", "ssl", "fss", "s--", "s--");

    private final Model model = new Model();
    private boolean hasCode;

    public int function() {
        if (model.functions.size() == 6) {
            return -1;
        }
        model.functions.add(new Model.Function());
        return accepted(model.functions.size() - 1);
    }

    public int variable(int size) {
        Model.Function latest = latest();
        if (latest == null || size < 1 || size > 8 || latest.sizes.size() == 6) {
            return -1;
        }
        latest.sizes.add(size);
        return accepted(latest.sizes.size() - 1);
    }

    public int op(int op, int a, int b, int c) {
        Model.Function latest = latest();
        if (latest == null || op < 0 || op > 15 || latest.instructions.size() == 24 || instructions() == 60) {
            return -1;
        }
        String arguments = ARGUMENTS.get(op);
        if (!suits(arguments.charAt(0), a) || !suits(arguments.charAt(1), b) || !suits(arguments.charAt(2), c)) {
            return -1;
        }
        latest.instructions.add(new Model.Instruction(op, a, b, c));
        return accepted(latest.instructions.size() - 1);
    }

    public int compile() {
        accepted(0);
        int answer = model.compile();
        hasCode = answer == 0;
        return answer;
    }

    public int length() {
        return hasCode ? model.bytes.size() : 0;
    }

    public int code(int i) {
        return hasCode && i >= 0 && i < model.bytes.size() ? model.bytes.get(i) : -1;
    }

    public int longs() {
        return hasCode ? model.longs : 0;
    }

    public int base(int f) {
        return hasCode && f >= 0 && f < model.functions.size() ? model.functions.get(f).base : -1;
    }

    public int address(int f, int i) {
        boolean there = base(f) >= 0 && i >= 0 && i < model.functions.get(f).instructions.size();
        return there ? model.addresses.get(f).get(i) : -1;
    }

    public boolean start() {
        if (hasCode) {
            model.start();
        }
        return hasCode;
    }

    public int run(int n) {
        return model.state == -1 || n < 0 || n > 1000 ? -1 : model.run(n);
    }

    public int state() {
        return model.state;
    }

    public int spent() {
        return model.spent;
    }

    public int next() {
        return model.next();
    }

    public int depth() {
        return model.state == 0 ? model.active.size() : 0;
    }

    public int value(int v, int i) {
        if (model.state != 0) {
            return -1;
        }
        Model.Function function = model.functions.get(model.next() / 24);
        boolean there = v >= 0 && v < function.sizes.size() && i >= 0 && i < function.sizes.get(v);
        return there ? model.data[function.base + function.offset(v) + i] : -1;
    }

    public int output(int k) {
        if (k == -1) {
            return model.output.size();
        }
        return k >= 0 && k < Math.min(100, model.output.size()) ? model.output.get(k) : -1;
    }

    private int accepted(int answer) {
        hasCode = false;
        model.drop();
        return answer;
    }

    private Model.Function latest() {
        return model.functions.isEmpty() ? null : model.functions.get(model.functions.size() - 1);
    }

    private int instructions() {
        return model.functions.stream().mapToInt(function -> function.instructions.size()).sum();
    }

    private boolean suits(char sort, int argument) {
        boolean there = argument >= 0 && argument < latest().sizes.size();
        int size = there ? latest().sizes.get(argument) : 0;
        return switch (sort) {
            case 's' -> size == 1 || size == 2;
            case 'b' -> size == 1;
            case 't' -> size >= 3;
            case 'k' -> argument >= 0 && argument <= 65535;
            default -> true;
        };
    }
}
