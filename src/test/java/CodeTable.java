import java.util.ArrayList;
import java.util.HashMap;
import java.util.HashSet;
import java.util.LinkedHashMap;
import java.util.List;
import java.util.Map;
import java.util.Set;
import java.util.regex.Matcher;
import java.util.regex.Pattern;

/**
 * The tables of the document in its own words, and the code that these words tell: numbers, names, the order of
 * arguments and the code of each instruction are read from the text. Only for programs without long branches.
 */
final class CodeTable {
    static final String INSTRUCTIONS = """
  0 SET a k: a becomes k (0 .. 65535)   1 MOVE a b: a becomes b   2 ADD a b c: a becomes b + c   3 SUB a b c: \
a becomes b - c (both modulo 256 if a is a BYTE, else 65536)   4 AND a b c   5 OR a b c   6 XOR a b c: \
bit by bit   7 DOUBLE a: a becomes a + a (modulo likewise)
  8 LOAD a t b, t an ARRAY, b a BYTE: a becomes byte b of t (from 0)   9 STORE t b c, likewise: byte b of t becomes \
the low byte of c; both FAULT if b is not less than the size of t   10 GOTO l   11 ZERO a l: goes to l if a is 0   \
12 BELOW a b l: goes to l if a is less than b
  13 CALL f a b: variable 0 of f becomes a, if f has one and it is a scalar; f is done; then b becomes the RESULT   \
14 RETURN a: the RESULT becomes a; the function that called goes on behind its CALL; in function 0, where it was not \
called, the program ENDS   15 OUT a: the low byte of a is put out, then, if a is a WIDE, the high one
""";

    static final String PROCESSOR = """
  0 LDA m: A becomes m   1 STA m: m becomes A   2 ADC m: A becomes A + m + C, C the carry   3 SBC m: A becomes \
A - m - 1 + C, C is 0 if it borrows   4 AND m   5 ORA m   6 EOR m   7 ASL m: m is doubled, C its highest bit before   \
8 ROL m: m becomes 2 * m + C, C likewise   9 LDX m: X becomes m   10 CMP m: C is 1 if A is not less than m   \
11 CPX m: likewise X
  12 CLC, 13 SEC: C becomes 0, 1   14 BEQ, 15 BNE: branch if Z, if not   16 BCC, 17 BCS: branch if not C, if C   \
18 JMP   19 JSR: goes there, and RTS behind it   20 RTS   21 OUT: A is put out   22 TRAP: FAULT     \
(0, 2 to 6: Z says whether A is 0; 7 to 11: whether what they worked out is)
""";

    static final String CODE = """
  SET: for i: LDA constant (byte i of k), STA a.i      MOVE: for i: LDA b.i, STA a.i      ADD: CLC, for i: LDA b.i, \
ADC c.i, STA a.i      SUB: SEC, for i: LDA b.i, SBC c.i, STA a.i      AND, OR, XOR: for i: LDA b.i, \
AND (ORA, EOR) c.i, STA a.i      DOUBLE: ASL a.0; for a WIDE ROL a.1
  LOAD: LDX b.0, CPX constant (size of t), BCC behind the TRAP, TRAP, LDA t with X, STA a.0; for a WIDE a: \
LDA constant 0, STA a.1      STORE: LDX b.0, CPX constant, BCC behind the TRAP, TRAP, LDA c.0, STA t with X      \
GOTO: JMP l
  ZERO: LDA a.0; for a WIDE ORA a.1; BEQ l      BELOW: LDA a.0, CMP b.0; if a or b is a WIDE: LDA a.1, SBC b.1; \
BCC l      CALL: for i of variable 0 of f, if it is there and a scalar: LDA a.i, STA that part; JSR f; then LDA 126, \
STA b.0; for a WIDE b: LDA 127, STA b.1
  RETURN: LDA a.0, STA 126, LDA a.1, STA 127, RTS      OUT: for i: LDA a.i, OUT
""";

    private static final Pattern FOR_WIDE = Pattern.compile("for a WIDE (?:(\\w): )?(.*)");
    private static final Pattern IF_WIDE = Pattern.compile("if (\\w) or (\\w) is a WIDE: (.*)");
    private static final Pattern FOR_GIVEN =
            Pattern.compile("for i of variable 0 of f, if it is there and a scalar: (.*)");
    private static final Pattern PART = Pattern.compile("\\w\\.\\d");
    private static final Pattern NUMBER = Pattern.compile("\\d+");

    /** The numbers of the program's instructions, and the letters of their arguments, by name. */
    static final Map<String, Integer> OPS = new LinkedHashMap<>();
    static final Map<String, String> LETTERS = new HashMap<>();
    private static final Map<String, Integer> NUMBERS = new HashMap<>();
    private static final Map<String, String> BODIES = new HashMap<>();

    static {
        Matcher op = Pattern.compile("(\\d+) ([A-Z]{2,6})((?: [a-z])+)(?=[:, ])").matcher(INSTRUCTIONS);
        while (op.find()) {
            OPS.put(op.group(2), Integer.parseInt(op.group(1)));
            LETTERS.put(op.group(2), op.group(3).replace(" ", ""));
        }
        Matcher number = Pattern.compile("(\\d+) ([A-Z]{3,4})\\b").matcher(PROCESSOR);
        while (number.find()) {
            NUMBERS.put(number.group(2), Integer.parseInt(number.group(1)));
        }
        for (String entry : CODE.strip().split("\\n +| {6}")) {
            addBodies(entry);
        }
    }

    /** "AND, OR, XOR: .. AND (ORA, EOR) .." is three entries. */
    private static void addBodies(String entry) {
        int colon = entry.indexOf(": ");
        String[] names = entry.substring(0, colon).split(", ");
        String body = entry.substring(colon + 2);
        Matcher choice = Pattern.compile("(\\w+) \\((\\w+), (\\w+)\\)").matcher(body);
        boolean chooses = names.length > 1 && choice.find();
        for (int k = 0; k < names.length; k++) {
            BODIES.put(names[k], chooses ? choice.replaceFirst(choice.group(1 + k)) : body);
        }
    }

    /** The kinds are: alone, constant, address, with X, branch (how far), target, function. */
    record Step(String name, String kind, int operand) {
        boolean is(String other) {
            return name.equals(other);
        }
    }

    record Instruction(String name, int a, int b, int c) {
        int argument(char letter) {
            int place = LETTERS.get(name).indexOf(letter);
            return place == 0 ? a : place == 1 ? b : c;
        }

        int target() {
            return LETTERS.get(name).indexOf('l') >= 0 ? argument('l') : -1;
        }
    }

    static final class Function {
        final List<Integer> sizes;
        final List<Instruction> instructions;
        int base;

        Function(List<Integer> sizes, List<Instruction> instructions) {
            this.sizes = sizes;
            this.instructions = instructions;
        }

        int addressOf(int v) {
            return base + sizes.subList(0, v).stream().mapToInt(size -> size).sum();
        }
    }

    private final List<Function> functions;

    CodeTable(List<Function> functions) {
        this.functions = functions;
    }

    List<Integer> bytes() {
        List<List<Step>> steps = new ArrayList<>();
        Map<String, Integer> places = new HashMap<>();
        int at = 0;
        for (int f = 0; f < functions.size(); f++) {
            List<List<Step>> own = kept(functions.get(f));
            for (int i = 0; i < own.size(); i++) {
                places.put(f + "." + i, at);
                at += own.get(i).stream().mapToInt(CodeTable::sizeOf).sum();
            }
            steps.addAll(own);
        }
        List<Integer> bytes = new ArrayList<>();
        int row = 0;
        for (int f = 0; f < functions.size(); f++) {
            for (int i = 0; i < functions.get(f).instructions.size(); i++) {
                for (Step step : steps.get(row)) {
                    add(bytes, step, f, places);
                }
                row++;
            }
        }
        return bytes;
    }

    /** The steps of each instruction, without those that are left out. */
    private List<List<Step>> kept(Function function) {
        Set<Integer> targets = new HashSet<>();
        for (Instruction one : function.instructions) {
            targets.add(one.target());
        }
        List<List<Step>> all = new ArrayList<>();
        String held = "nothing";
        for (int i = 0; i < function.instructions.size(); i++) {
            Instruction one = function.instructions.get(i);
            held = targets.contains(i) ? "nothing" : held;
            boolean never = one.name().equals("ZERO") && function.sizes.get(one.a()) == 1;
            List<Step> kept = new ArrayList<>();
            for (Step step : steps(function, one)) {
                if (!step.is("LDA") || never || !held.equals(step.kind() + step.operand())) {
                    kept.add(step);
                }
                held = heldBehind(step, held);
            }
            all.add(kept);
        }
        return all;
    }

    private static String heldBehind(Step step, String held) {
        String place = step.kind() + step.operand();
        switch (step.name()) {
            case "ADC", "SBC", "AND", "ORA", "EOR", "JSR":
                return "nothing";
            case "LDA":
                return step.kind().equals("with X") ? "nothing" : place;
            case "STA":
                return step.kind().equals("with X") ? held : place;
            case "ASL", "ROL":
                return place.equals(held) ? "nothing" : held;
            default:
                return held;
        }
    }

    private List<Step> steps(Function function, Instruction one) {
        List<Step> steps = new ArrayList<>();
        for (String clause : BODIES.get(one.name()).split("; ")) {
            String text = clause.startsWith("then ") ? clause.substring(5) : clause;
            Matcher wide = FOR_WIDE.matcher(text);
            Matcher either = IF_WIDE.matcher(text);
            Matcher given = FOR_GIVEN.matcher(text);
            if (wide.matches()) {
                char letter = wide.group(1) == null ? 'a' : wide.group(1).charAt(0);
                addSteps(steps, function, one, isWide(function, one, letter) ? wide.group(2) : "");
            } else if (either.matches()) {
                boolean holds = isWide(function, one, either.group(1).charAt(0))
                        || isWide(function, one, either.group(2).charAt(0));
                addSteps(steps, function, one, holds ? either.group(3) : "");
            } else if (given.matches()) {
                addForEach(steps, function, one, given.group(1), partsGiven(one));
            } else {
                String[] halves = text.split("for i: ", 2);
                addSteps(steps, function, one, halves.length == 2 ? halves[0].replaceAll(", $", "") : text);
                if (halves.length == 2) {
                    addForEach(steps, function, one, halves[1], function.sizes.get(one.argument('a')));
                }
            }
        }
        return steps;
    }

    private int partsGiven(Instruction call) {
        List<Integer> sizes = functions.get(call.argument('f')).sizes;
        return sizes.isEmpty() || sizes.get(0) > 2 ? 0 : sizes.get(0);
    }

    private static boolean isWide(Function function, Instruction one, char letter) {
        return function.sizes.get(one.argument(letter)) == 2;
    }

    private void addForEach(List<Step> steps, Function function, Instruction one, String text, int parts) {
        for (int i = 0; i < parts; i++) {
            addSteps(steps, function, one, text.replace(".i", "." + i).replace("byte i", "byte " + i)
                    .replace("that part", "that part " + i));
        }
    }

    private void addSteps(List<Step> steps, Function function, Instruction one, String text) {
        for (String word : text.isEmpty() ? new String[0] : text.split(", ")) {
            String[] halves = word.split(" ", 2);
            steps.add(halves.length == 1 ? new Step(word, "alone", 0)
                    : step(function, one, halves[0], halves[1]));
        }
    }

    private Step step(Function function, Instruction one, String name, String operand) {
        if (PART.matcher(operand).matches()) {
            int v = one.argument(operand.charAt(0));
            int i = operand.charAt(2) - '0';
            return i < function.sizes.get(v) ? new Step(name, "address", function.addressOf(v) + i)
                    : new Step(name, "constant", 0);
        }
        if (NUMBER.matcher(operand).matches()) {
            return new Step(name, "address", Integer.parseInt(operand));
        }
        if (operand.startsWith("that part ")) {
            int i = operand.charAt(operand.length() - 1) - '0';
            return new Step(name, "address", functions.get(one.argument('f')).addressOf(0) + i);
        }
        return switch (operand) {
            case "constant (byte 0 of k)" -> new Step(name, "constant", one.argument('k') % 256);
            case "constant (byte 1 of k)" -> new Step(name, "constant", one.argument('k') / 256);
            case "constant 0" -> new Step(name, "constant", 0);
            case "constant (size of t)", "constant" ->
                new Step(name, "constant", function.sizes.get(one.argument('t')));
            case "behind the TRAP" -> new Step(name, "branch", sizeOf(new Step("TRAP", "alone", 0)));
            case "t with X" -> new Step(name, "with X", function.addressOf(one.argument('t')));
            case "l" -> new Step(name, "target", one.argument('l'));
            case "f" -> new Step(name, "function", one.argument('f'));
            default -> throw new IllegalStateException(name + " " + operand);
        };
    }

    private static boolean isBranch(Step step) {
        return step.kind().equals("branch") || step.kind().equals("target") && !step.is("JMP");
    }

    private static int form(Step step) {
        if (isBranch(step)) {
            return 6;
        }
        boolean near = step.operand() < 16;
        return switch (step.kind()) {
            case "alone" -> 0;
            case "constant" -> 1;
            case "address" -> near ? 2 : 3;
            case "with X" -> near ? 4 : 5;
            default -> 7;
        };
    }

    private static int sizeOf(Step step) {
        int form = form(step);
        return form == 0 ? 1 : form == 3 || form == 5 || form == 7 ? 3 : 2;
    }

    private static void add(List<Integer> bytes, Step step, int f, Map<String, Integer> places) {
        int form = form(step);
        bytes.add(8 * NUMBERS.get(step.name()) + form);
        if (step.kind().equals("target") || step.kind().equals("function")) {
            int goal = places.get(step.is("JSR") ? step.operand() + ".0" : f + "." + step.operand());
            bytes.add((form == 6 ? goal - (bytes.size() + 1) : goal) & 255);
            if (form == 7) {
                bytes.add(goal / 256);
            }
        } else if (form != 0) {
            bytes.add(step.operand());
            if (form == 3 || form == 5) {
                bytes.add(0);
            }
        }
    }
}
