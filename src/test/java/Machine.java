import java.util.ArrayList;
import java.util.List;

/** The processor of the document, for code that was read byte by byte from an object. */
final class Machine {
    private final List<Integer> code;
    final int[] data = new int[128];
    final List<Integer> output = new ArrayList<>();
    final List<Integer> returns = new ArrayList<>();
    int at;
    int spent;
    boolean ended;
    boolean fault;
    private int a;
    private int x;
    private boolean c;
    private boolean z;

    Machine(List<Integer> code) {
        this.code = code;
    }

    boolean goesOn() {
        return !ended && !fault;
    }

    /** One instruction of the processor. */
    void step() {
        int number = code.get(at) / 8;
        int form = code.get(at) % 8;
        int operand = form == 0 ? 0 : code.get(at + 1);
        int wide = form == 3 || form == 5 || form == 7 ? 256 * code.get(at + 2) : 0;
        at += form == 0 ? 1 : form == 3 || form == 5 || form == 7 ? 3 : 2;
        spent++;
        int address = operand + wide + (form == 4 || form == 5 ? x : 0);
        int m = form == 1 ? operand : form >= 2 && form <= 5 ? data[address] : 0;
        switch (number) {
            case 0 -> load(m);
            case 1 -> data[address] = a;
            case 2 -> add(a + m + (c ? 1 : 0));
            case 3 -> subtract(a - m - 1 + (c ? 1 : 0));
            case 4 -> load(a & m);
            case 5 -> load(a | m);
            case 6 -> load(a ^ m);
            case 7 -> doubled(address, 2 * m);
            case 8 -> doubled(address, 2 * m + (c ? 1 : 0));
            case 9 -> {
                x = m;
                z = x == 0;
            }
            case 10 -> compare(a, m);
            case 11 -> compare(x, m);
            case 12 -> c = false;
            case 13 -> c = true;
            case 14 -> branch(z, operand);
            case 15 -> branch(!z, operand);
            case 16 -> branch(!c, operand);
            case 17 -> branch(c, operand);
            case 18 -> at = operand + wide;
            case 19 -> {
                returns.add(at);
                at = operand + wide;
            }
            case 20 -> goBack();
            case 21 -> output.add(a);
            case 22 -> fault = true;
            default -> throw new IllegalStateException("no instruction " + number + " at " + at);
        }
    }

    private void load(int m) {
        a = m;
        z = a == 0;
    }

    private void add(int sum) {
        c = sum > 255;
        load(sum % 256);
    }

    private void subtract(int difference) {
        c = difference >= 0;
        load(Math.floorMod(difference, 256));
    }

    private void doubled(int address, int twice) {
        c = twice > 255;
        data[address] = twice % 256;
        z = data[address] == 0;
    }

    private void compare(int left, int m) {
        c = left >= m;
        z = left == m;
    }

    private void branch(boolean goes, int distance) {
        at += goes ? (byte) distance : 0;
    }

    private void goBack() {
        if (returns.isEmpty()) {
            ended = true;
        } else {
            at = returns.remove(returns.size() - 1);
        }
    }
}
