/**
 * All that can be asked of an object, as one text, with arguments inside and just outside of what is there. It takes
 * some 260 calls at most, so that an object can still be given a full program within its 512 calls.
 */
final class Answers {
    private static final int FIRST_BYTES = 80;

    private Answers() {
    }

    static String of(FrameBackEnd x) {
        StringBuilder text = new StringBuilder();
        code(x, text);
        layout(x, text);
        run(x, text);
        return text.toString();
    }

    private static void code(FrameBackEnd x, StringBuilder text) {
        int length = x.length();
        text.append("length ").append(length).append(" longs ").append(x.longs()).append(" code");
        for (int i = -1; i < Math.min(length, FIRST_BYTES); i++) {
            text.append(' ').append(x.code(i));
        }
        for (int i = Math.max(0, length - 2); i <= length; i++) {
            text.append(' ').append(x.code(i));
        }
    }

    private static void layout(FrameBackEnd x, StringBuilder text) {
        text.append(" bases");
        for (int f = -1; f <= 6; f++) {
            text.append(' ').append(x.base(f));
        }
        text.append(" addresses");
        int[] instructions = {-1, 0, 1, 2, 3, 4, 23, 24};
        for (int f = -1; f <= 6; f++) {
            for (int i : instructions) {
                text.append(' ').append(x.address(f, i));
            }
        }
    }

    private static void run(FrameBackEnd x, StringBuilder text) {
        text.append(" state ").append(x.state()).append(" spent ").append(x.spent());
        text.append(" next ").append(x.next()).append(" depth ").append(x.depth()).append(" values");
        int[] bytes = {-1, 0, 1, 2, 7, 8};
        for (int v = -1; v <= 6; v++) {
            for (int i : bytes) {
                text.append(' ').append(x.value(v, i));
            }
        }
        text.append(" output");
        int[] places = {-2, -1, 0, 1, 2, 3, 4, 98, 99, 100};
        for (int k : places) {
            text.append(' ').append(x.output(k));
        }
    }
}
