import java.util.ArrayList;
import java.util.List;

/**
 * The processor's instructions as text and as bytes: "LDA #5" (a constant), "LDA 5" (an address), "LDA 5,X",
 * "BEQ +7" (how far), "JMP 300" (an address in the code), "CLC".
 */
final class Bytes {
    private static final List<String> NAMES = List.of("LDA", "STA", "ADC", "SBC", "AND", "ORA", "EOR", "ASL", "ROL",
            "LDX", "CMP", "CPX", "CLC", "SEC", "BEQ", "BNE", "BCC", "BCS", "JMP", "JSR", "RTS", "OUT", "TRAP");

    private Bytes() {
    }

    static List<Integer> of(String... lines) {
        List<Integer> bytes = new ArrayList<>();
        for (String line : lines) {
            add(bytes, line);
        }
        return bytes;
    }

    static int sizeOf(String line) {
        return of(line).size();
    }

    private static void add(List<Integer> bytes, String line) {
        String[] words = line.split(" ");
        int first = 8 * NAMES.indexOf(words[0]);
        if (words.length == 1) {
            bytes.add(first);
        } else if (words[1].startsWith("#")) {
            bytes.add(first + 1);
            bytes.add(Integer.parseInt(words[1].substring(1)));
        } else if (words[1].startsWith("+") || words[1].startsWith("-")) {
            bytes.add(first + 6);
            bytes.add(Integer.parseInt(words[1]) & 255);
        } else if (words[0].equals("JMP") || words[0].equals("JSR")) {
            bytes.add(first + 7);
            bytes.add(Integer.parseInt(words[1]) % 256);
            bytes.add(Integer.parseInt(words[1]) / 256);
        } else {
            addAddress(bytes, first, words[1]);
        }
    }

    private static void addAddress(List<Integer> bytes, int first, String operand) {
        boolean withX = operand.endsWith(",X");
        int address = Integer.parseInt(withX ? operand.substring(0, operand.length() - 2) : operand);
        bytes.add(first + (withX ? 4 : 2) + (address < 16 ? 0 : 1));
        bytes.add(address);
        if (address >= 16) {
            bytes.add(0);
        }
    }

    /** All bytes of the code, by length() and code(i). */
    static List<Integer> of(FrameBackEnd x) {
        List<Integer> bytes = new ArrayList<>();
        for (int i = 0; i < x.length(); i++) {
            bytes.add(x.code(i));
        }
        return bytes;
    }
}
