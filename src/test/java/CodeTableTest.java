import java.util.ArrayList;
import java.util.HashSet;
import java.util.List;
import java.util.Set;

/**
 * Promise 7 with the tables of "Terms", as they are said there: the code of each instruction, for all sorts of its
 * arguments, near and far, behind what A can hold, held against the code that the document's own words tell.
 */
public final class CodeTableTest {
    private static final Due DUE = new Due("CodeTableTest");
    private static final int[] CONSTANTS = {0, 1, 255, 256, 511, 65535};

    /** In places such that BYTEs, parts of WIDEs and ARRAYs each lie below 16, at 15, at 16 and above. */
    private static final List<List<Integer>> FRAMES = List.of(
            List.of(1, 1, 2, 2, 3, 4), List.of(8, 7, 2, 2, 1, 1), List.of(8, 8, 1, 1, 2, 2),
            List.of(1, 8, 6, 1, 2, 2), List.of(2, 8, 4, 2, 1, 1), List.of(8, 7, 3, 1, 1, 2),
            List.of(8, 8, 3, 1, 2, 2));

    /** What callees have: a BYTE, a WIDE, an ARRAY or nothing to give the argument to. */
    private static final List<List<Integer>> CALLEES = List.of(List.of(1, 2), List.of(2), List.of(3, 1), List.of());

    public static void main(String[] args) {
        tables();
        DUE.by("THE CODE of an instruction");
        for (List<Integer> frame : FRAMES) {
            List<CodeTable.Instruction> all = instructions(frame);
            for (List<CodeTable.Instruction> before : before(frame)) {
                for (CodeTable.Instruction one : all) {
                    compare(frame, before, one, 0);
                    compare(frame, before, one, before.size());
                }
            }
        }
        DUE.end();
    }

    private static void tables() {
        DUE.is("instructions of the program", String.join(" ", CodeTable.OPS.keySet()),
                String.join(" ", Programs.OPS));
        for (String name : CodeTable.OPS.keySet()) {
            DUE.is("the number of " + name, CodeTable.OPS.get(name), Programs.OPS.indexOf(name));
        }
    }

    private static List<Integer> ofSize(List<Integer> frame, int least, int greatest) {
        List<Integer> found = new ArrayList<>();
        for (int v = 0; v < frame.size(); v++) {
            if (frame.get(v) >= least && frame.get(v) <= greatest) {
                found.add(v);
            }
        }
        return found;
    }

    /** What a letter of the table can be: l is the instruction itself or the first one, f each of the callees. */
    private static List<Integer> choices(List<Integer> frame, String name, char letter) {
        boolean indexes = name.equals("LOAD") || name.equals("STORE");
        return switch (letter) {
            case 'k' -> java.util.Arrays.stream(CONSTANTS).boxed().toList();
            case 'l' -> List.of(0, 1);
            case 'f' -> List.of(1, 2, 3, 4);
            case 't' -> ofSize(frame, 3, 8);
            case 'b' -> ofSize(frame, 1, indexes ? 1 : 2);
            default -> ofSize(frame, 1, 2);
        };
    }

    private static List<CodeTable.Instruction> instructions(List<Integer> frame) {
        List<CodeTable.Instruction> all = new ArrayList<>();
        for (String name : CodeTable.OPS.keySet()) {
            String letters = CodeTable.LETTERS.get(name);
            List<List<Integer>> choices = new ArrayList<>();
            for (int k = 0; k < 3; k++) {
                choices.add(k < letters.length() ? choices(frame, name, letters.charAt(k)) : List.of(-9));
            }
            for (int a : choices.get(0)) {
                for (int b : choices.get(1)) {
                    for (int c : choices.get(2)) {
                        all.add(new CodeTable.Instruction(name, a, b, c));
                    }
                }
            }
        }
        return all;
    }

    private static CodeTable.Instruction line(String name, int... arguments) {
        int[] three = java.util.Arrays.copyOf(arguments, 3);
        return new CodeTable.Instruction(name, three[0], three[1], three[2]);
    }

    /** What can stand before an instruction, so that A holds one of all sorts of things. */
    private static List<List<CodeTable.Instruction>> before(List<Integer> frame) {
        List<List<CodeTable.Instruction>> all = new ArrayList<>();
        List<Integer> scalars = ofSize(frame, 1, 2);
        int index = ofSize(frame, 1, 1).get(0);
        int array = ofSize(frame, 3, 8).get(0);
        all.add(List.of());
        for (int v : scalars) {
            CodeTable.Instruction holds = line("STORE", array, index, v);
            all.add(List.of(holds));
            all.add(List.of(line("OUT", v)));
            all.add(List.of(holds, line("DOUBLE", v)));
            all.add(List.of(line("SET", v, 0)));
            all.add(List.of(line("LOAD", v, array, index)));
        }
        int first = scalars.get(0);
        int last = scalars.get(scalars.size() - 1);
        all.add(List.of(line("OUT", first), line("DOUBLE", last)));
        all.add(List.of(line("ADD", first, last, last)));
        all.add(List.of(line("ZERO", first, 0)));
        all.add(List.of(line("BELOW", last, first, 0)));
        all.add(List.of(line("CALL", 1, first, last)));
        all.add(List.of(line("RETURN", first)));
        return all;
    }

    /** The instruction stands behind the others and before a GOTO to the first of all, or to itself. */
    private static void compare(List<Integer> frame, List<CodeTable.Instruction> before, CodeTable.Instruction one,
            int target) {
        List<CodeTable.Instruction> lines = new ArrayList<>(before);
        lines.add(one);
        lines.add(line("GOTO", target));
        List<CodeTable.Function> functions = new ArrayList<>();
        functions.add(new CodeTable.Function(frame, lines));
        for (List<Integer> sizes : CALLEES) {
            functions.add(new CodeTable.Function(sizes, List.of(line("GOTO", 0))));
        }
        int end = frame.stream().mapToInt(size -> size).sum();
        for (int f : called(lines)) {
            functions.get(f).base = end;
        }
        String what = "the code of " + lines + " with variables of the sizes " + frame;
        DUE.is(what, codeOf(functions), new CodeTable(functions).bytes().toString());
    }

    private static Set<Integer> called(List<CodeTable.Instruction> lines) {
        Set<Integer> called = new HashSet<>();
        for (CodeTable.Instruction one : lines) {
            if (one.name().equals("CALL")) {
                called.add(one.a());
            }
        }
        return called;
    }

    private static String codeOf(List<CodeTable.Function> functions) {
        FrameBackEnd x = new FrameBackEnd();
        for (CodeTable.Function function : functions) {
            x.function();
            for (int size : function.sizes) {
                x.variable(size);
            }
            for (CodeTable.Instruction one : function.instructions) {
                x.op(CodeTable.OPS.get(one.name()), one.a(), one.b(), one.c());
            }
        }
        int answer = x.compile();
        return answer == 0 ? Bytes.of(x).toString() : "compile() answered " + answer;
    }
}
