import java.util.ArrayList;
import java.util.List;

/**
 * A second way to work out what the class answers, written from the document and as plainly as can be: the code as
 * text, long branches by trying all choices, and runs by what the instructions of the program mean, not by the code.
 */
final class Model {
    /** An instruction of a function. */
    record Instruction(int op, int a, int b, int c) {
        int target() {
            return op == 10 ? a : op == 11 ? b : op == 12 ? c : -1;
        }

        boolean isBranch() {
            return op == 11 || op == 12;
        }
    }

    static final class Function {
        final List<Integer> sizes = new ArrayList<>();
        final List<Instruction> instructions = new ArrayList<>();
        int base;

        int offset(int v) {
            int sum = 0;
            for (int u = 0; u < v; u++) {
                sum += sizes.get(u);
            }
            return sum;
        }

        int end() {
            return base + offset(sizes.size());
        }

        boolean isTarget(int i) {
            return instructions.stream().anyMatch(one -> one.op() >= 10 && one.op() <= 12 && one.target() == i);
        }
    }

    /** What the last compile() of the model made. */
    final List<Function> functions = new ArrayList<>();
    final List<Integer> bytes = new ArrayList<>();
    final List<List<Integer>> addresses = new ArrayList<>();
    private final List<List<List<String>>> lines = new ArrayList<>();
    private final List<boolean[]> longBranches = new ArrayList<>();
    int longs;

    private String held = "";
    private List<String> writing;

    int compile() {
        bytes.clear();
        addresses.clear();
        lines.clear();
        longBranches.clear();
        longs = 0;
        int fault = fault();
        if (fault != 0) {
            return fault;
        }
        for (Function function : functions) {
            writeFunction(function);
        }
        assemble();
        return bytes.size() > 500 ? 6 : 0;
    }

    private int fault() {
        if (functions.isEmpty()) {
            return 1;
        }
        for (Function function : functions) {
            int count = function.instructions.size();
            int last = count == 0 ? -1 : function.instructions.get(count - 1).op();
            if (last != 10 && last != 14) {
                return 1;
            }
        }
        for (Function function : functions) {
            for (Instruction one : function.instructions) {
                if (one.op() >= 10 && one.op() <= 12
                        && (one.target() < 0 || one.target() >= function.instructions.size())) {
                    return 2;
                }
            }
        }
        return faultOfCalls();
    }

    private int faultOfCalls() {
        for (Function function : functions) {
            for (Instruction one : function.instructions) {
                if (one.op() == 13 && (one.a() < 0 || one.a() >= functions.size())) {
                    return 3;
                }
            }
        }
        for (int f = 0; f < functions.size(); f++) {
            if (longestChain(f) > functions.size()) {
                return 4;
            }
        }
        for (int f = 0; f < functions.size(); f++) {
            functions.get(f).base = baseOf(f);
        }
        return functions.stream().anyMatch(function -> function.end() > 120) ? 5 : 0;
    }

    private boolean calls(int f, int g) {
        return functions.get(f).instructions.stream().anyMatch(one -> one.op() == 13 && one.a() == g);
    }

    /** How many functions can be active if f is the first; more than there are functions if one calls itself. */
    private int longestChain(int f) {
        return longestChain(f, 0);
    }

    private int longestChain(int f, int open) {
        if (open > functions.size()) {
            return open;
        }
        int longest = open + 1;
        for (int g = 0; g < functions.size(); g++) {
            if (calls(f, g)) {
                longest = Math.max(longest, longestChain(g, open + 1));
            }
        }
        return longest;
    }

    private int baseOf(int g) {
        int base = 0;
        for (int f = 0; f < functions.size() && g != 0; f++) {
            if (calls(f, g)) {
                Function caller = functions.get(f);
                base = Math.max(base, baseOf(f) + caller.offset(caller.sizes.size()));
            }
        }
        return base;
    }

    private void writeFunction(Function function) {
        List<List<String>> written = new ArrayList<>();
        held = "";
        for (int i = 0; i < function.instructions.size(); i++) {
            if (function.isTarget(i)) {
                held = "";
            }
            writing = new ArrayList<>();
            write(function, function.instructions.get(i));
            written.add(writing);
        }
        lines.add(written);
    }

    private void line(String name, String operand) {
        if (name.equals("LDA") && operand.equals(held)) {
            return;
        }
        writing.add(operand.isEmpty() ? name : name + " " + operand);
        boolean withX = operand.endsWith(",X");
        if (List.of("ADC", "SBC", "AND", "ORA", "EOR", "JSR").contains(name) || name.equals("LDA") && withX) {
            held = "";
        } else if ((name.equals("LDA") || name.equals("STA")) && !withX) {
            held = operand;
        } else if ((name.equals("ASL") || name.equals("ROL")) && operand.equals(held)) {
            held = "";
        }
    }

    private static String part(Function function, int v, int i) {
        return i < function.sizes.get(v) ? "" + (function.base + function.offset(v) + i) : "#0";
    }

    private void write(Function function, Instruction one) {
        int a = one.a();
        int b = one.b();
        int c = one.c();
        switch (one.op()) {
            case 0 -> each(function, a, i -> load("#" + (one.b() >> 8 * i) % 256));
            case 1 -> each(function, a, i -> load(part(function, b, i)));
            case 2, 3, 4, 5, 6 -> combine(function, one);
            case 7 -> {
                line("ASL", part(function, a, 0));
                if (function.sizes.get(a) == 2) {
                    line("ROL", part(function, a, 1));
                }
            }
            case 8 -> {
                index(function, b, c);
                line("LDA", function.base + function.offset(b) + ",X");
                line("STA", part(function, a, 0));
                if (function.sizes.get(a) == 2) {
                    line("LDA", "#0");
                    line("STA", part(function, a, 1));
                }
            }
            case 9 -> {
                index(function, a, b);
                load(part(function, c, 0));
                line("STA", function.base + function.offset(a) + ",X");
            }
            case 10 -> line("JMP", "@" + a);
            case 11, 12 -> condition(function, one);
            case 13 -> call(function, one);
            case 14 -> {
                load(part(function, a, 0));
                line("STA", "126");
                load(part(function, a, 1));
                line("STA", "127");
                line("RTS", "");
            }
            default -> {
                for (int i = 0; i < function.sizes.get(a); i++) {
                    load(part(function, a, i));
                    line("OUT", "");
                }
            }
        }
    }

    private interface Part {
        void write(int i);
    }

    private void each(Function function, int a, Part part) {
        for (int i = 0; i < function.sizes.get(a); i++) {
            part.write(i);
            line("STA", part(function, a, i));
        }
    }

    private void load(String operand) {
        line("LDA", operand);
    }

    private void combine(Function function, Instruction one) {
        if (one.op() < 4) {
            line(one.op() == 2 ? "CLC" : "SEC", "");
        }
        String name = List.of("ADC", "SBC", "AND", "ORA", "EOR").get(one.op() - 2);
        each(function, one.a(), i -> {
            load(part(function, one.b(), i));
            line(name, part(function, one.c(), i));
        });
    }

    private void index(Function function, int t, int b) {
        line("LDX", part(function, b, 0));
        line("CPX", "#" + function.sizes.get(t));
        line("BCC", "+1");
        line("TRAP", "");
    }

    private void condition(Function function, Instruction one) {
        boolean wide = function.sizes.get(one.a()) == 2;
        if (one.op() == 11 && !wide) {
            held = "";
        }
        load(part(function, one.a(), 0));
        if (one.op() == 11 && wide) {
            line("ORA", part(function, one.a(), 1));
        }
        if (one.op() == 12) {
            line("CMP", part(function, one.b(), 0));
            if (wide || function.sizes.get(one.b()) == 2) {
                load(part(function, one.a(), 1));
                line("SBC", part(function, one.b(), 1));
            }
        }
        line(one.op() == 11 ? "BEQ" : "BCC", "@" + one.target());
    }

    private void call(Function function, Instruction one) {
        Function callee = functions.get(one.a());
        int parts = callee.sizes.isEmpty() || callee.sizes.get(0) > 2 ? 0 : callee.sizes.get(0);
        for (int i = 0; i < parts; i++) {
            load(part(function, one.b(), i));
            line("STA", "" + (callee.base + i));
        }
        line("JSR", "@" + one.a());
        for (int i = 0; i < function.sizes.get(one.c()); i++) {
            load("" + (126 + i));
            line("STA", part(function, one.c(), i));
        }
    }

    private void assemble() {
        int at = 0;
        for (int f = 0; f < functions.size(); f++) {
            boolean[] choice = fewestLongs(f);
            longBranches.add(choice);
            List<Integer> local = localAddresses(f, choice);
            List<Integer> moved = new ArrayList<>();
            for (int i = 0; i + 1 < local.size(); i++) {
                moved.add(at + local.get(i));
            }
            addresses.add(moved);
            at += local.get(local.size() - 1);
        }
        for (int f = 0; f < functions.size(); f++) {
            for (int i = 0; i < functions.get(f).instructions.size(); i++) {
                emit(f, i);
            }
        }
    }

    private void emit(int f, int i) {
        for (String line : lines.get(f).get(i)) {
            int sign = line.indexOf('@');
            if (sign < 0) {
                bytes.addAll(Bytes.of(line));
                continue;
            }
            String name = line.substring(0, 3);
            int number = Integer.parseInt(line.substring(sign + 1));
            int goal = name.equals("JSR") ? addresses.get(number).get(0) : addresses.get(f).get(number);
            if (name.startsWith("J")) {
                bytes.addAll(Bytes.of(name + " " + goal));
            } else if (longBranches.get(f)[i]) {
                longs++;
                bytes.addAll(Bytes.of((name.equals("BEQ") ? "BNE" : "BCS") + " +3", "JMP " + goal));
            } else {
                int far = goal - (bytes.size() + 2);
                bytes.addAll(Bytes.of(name + " " + (far < 0 ? "" : "+") + far));
            }
        }
    }

    /** Where the instructions of f begin, from its own beginning, and behind them its end. */
    private List<Integer> localAddresses(int f, boolean[] choice) {
        List<Integer> local = new ArrayList<>();
        int at = 0;
        for (int i = 0; i < choice.length; i++) {
            local.add(at);
            for (String line : lines.get(f).get(i)) {
                boolean jumps = line.startsWith("J");
                boolean branches = line.indexOf('@') >= 0 && !jumps;
                at += jumps ? 3 : branches ? (choice[i] ? 5 : 2) : Bytes.sizeOf(line);
            }
        }
        local.add(at);
        return local;
    }

    private boolean[] fewestLongs(int f) {
        Function function = functions.get(f);
        List<Integer> branches = new ArrayList<>();
        for (int i = 0; i < function.instructions.size(); i++) {
            if (function.instructions.get(i).isBranch()) {
                branches.add(i);
            }
        }
        boolean[] best = null;
        int fewest = Integer.MAX_VALUE;
        for (int set = 0; set < 1 << branches.size(); set++) {
            boolean[] choice = new boolean[function.instructions.size()];
            for (int k = 0; k < branches.size(); k++) {
                choice[branches.get(k)] = (set >> k & 1) == 1;
            }
            if (Integer.bitCount(set) < fewest && allReach(f, choice)) {
                fewest = Integer.bitCount(set);
                best = choice;
            }
        }
        return best;
    }

    private boolean allReach(int f, boolean[] choice) {
        List<Integer> local = localAddresses(f, choice);
        for (int i = 0; i < choice.length; i++) {
            Instruction one = functions.get(f).instructions.get(i);
            if (one.isBranch() && !choice[i]) {
                int far = local.get(one.target()) - local.get(i + 1);
                if (far < -128 || far > 127) {
                    return false;
                }
            }
        }
        return true;
    }

    // What follows is the run.

    final int[] data = new int[128];
    final List<Integer> output = new ArrayList<>();
    /** The functions that are active and the instructions at which they are, the first function first. */
    final List<int[]> active = new ArrayList<>();
    int state = -1;
    int spent;

    void start() {
        java.util.Arrays.fill(data, 0);
        output.clear();
        active.clear();
        active.add(new int[] {0, 0});
        state = 0;
        spent = 0;
    }

    void drop() {
        output.clear();
        active.clear();
        state = -1;
        spent = 0;
    }

    int run(int n) {
        int done = 0;
        while (done < n && state == 0) {
            step();
            done++;
        }
        return done;
    }

    int next() {
        int[] top = state == 0 ? active.get(active.size() - 1) : null;
        return top == null ? -1 : 24 * top[0] + top[1];
    }

    private int get(Function function, int v) {
        int at = function.base + function.offset(v);
        return data[at] + (function.sizes.get(v) == 2 ? 256 * data[at + 1] : 0);
    }

    private void set(int at, int size, int value) {
        data[at] = value & 255;
        if (size == 2) {
            data[at + 1] = value >> 8 & 255;
        }
    }

    private void set(Function function, int v, int value) {
        set(function.base + function.offset(v), function.sizes.get(v), value);
    }

    private void step() {
        int[] top = active.get(active.size() - 1);
        int f = top[0];
        int i = top[1];
        Function function = functions.get(f);
        Instruction one = function.instructions.get(i);
        int a = one.a();
        int b = one.b();
        int c = one.c();
        int count = lines.get(f).get(i).size();
        top[1] = i + 1;
        switch (one.op()) {
            case 0 -> set(function, a, b);
            case 1 -> set(function, a, get(function, b));
            case 2 -> set(function, a, get(function, b) + get(function, c));
            case 3 -> set(function, a, get(function, b) - get(function, c));
            case 4 -> set(function, a, get(function, b) & get(function, c));
            case 5 -> set(function, a, get(function, b) | get(function, c));
            case 6 -> set(function, a, get(function, b) ^ get(function, c));
            case 7 -> set(function, a, 2 * get(function, a));
            case 8 -> count = element(function, b, c) < 0 ? trap() : loadElement(function, one, count);
            case 9 -> count = element(function, a, b) < 0 ? trap() : storeElement(function, one, count);
            case 10 -> top[1] = a;
            case 11 -> count = branch(top, f, i, get(function, a) == 0, count);
            case 12 -> count = branch(top, f, i, get(function, a) < get(function, b), count);
            case 13 -> count = enter(function, one, f, i);
            case 14 -> count += leave(get(function, a));
            default -> {
                for (int k = 0; k < function.sizes.get(a); k++) {
                    output.add(get(function, a) >> 8 * k & 255);
                }
            }
        }
        spent += count;
    }

    /** The address of byte b of t, -1 if there is none. */
    private int element(Function function, int t, int b) {
        int index = get(function, b);
        return index < function.sizes.get(t) ? function.base + function.offset(t) + index : -1;
    }

    private int trap() {
        state = 2;
        return 4;
    }

    private int loadElement(Function function, Instruction one, int count) {
        set(function, one.a(), data[element(function, one.b(), one.c())]);
        return count - 1;
    }

    private int storeElement(Function function, Instruction one, int count) {
        data[element(function, one.a(), one.b())] = get(function, one.c()) & 255;
        return count - 1;
    }

    /** A long branch has one line more, its JMP, which is done only if it goes to its target. */
    private int branch(int[] top, int f, int i, boolean goes, int count) {
        if (goes) {
            top[1] = functions.get(f).instructions.get(i).target();
        }
        return count + (goes && longBranches.get(f)[i] ? 1 : 0);
    }

    private int linesToCall(int f, int i) {
        List<String> all = lines.get(f).get(i);
        int k = 0;
        while (!all.get(k).startsWith("JSR")) {
            k++;
        }
        return k + 1;
    }

    private int enter(Function function, Instruction one, int f, int i) {
        Function callee = functions.get(one.a());
        if (!callee.sizes.isEmpty() && callee.sizes.get(0) <= 2) {
            set(callee, 0, get(function, one.b()));
        }
        active.add(new int[] {one.a(), 0});
        return linesToCall(f, i);
    }

    private int leave(int result) {
        set(126, 2, result);
        active.remove(active.size() - 1);
        if (active.isEmpty()) {
            state = 1;
            return 0;
        }
        int[] caller = active.get(active.size() - 1);
        int i = caller[1] - 1;
        Function function = functions.get(caller[0]);
        set(function, function.instructions.get(i).c(), data[126] + 256 * data[127]);
        return lines.get(caller[0]).get(i).size() - linesToCall(caller[0], i);
    }
}
