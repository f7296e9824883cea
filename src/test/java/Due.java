/** Counts and prints the answers that are not as due. */
final class Due {
    private final String test;
    private String sentence = "";
    private int wrong;
    private int asked;

    Due(String test) {
        this.test = test;
    }

    /** The answers that follow are due by this sentence of the document, which is printed with each that is wrong. */
    void by(String sentence) {
        this.sentence = " [" + sentence + "]";
    }

    void is(String call, long got, long want) {
        asked++;
        if (got != want) {
            wrong++;
            System.out.println(test + ": " + call + " answered " + got + ", due is " + want + sentence);
        }
    }

    void is(String call, boolean got, boolean want) {
        is(call, got ? 1L : 0L, want ? 1L : 0L);
    }

    void is(String call, String got, String want) {
        asked++;
        if (!got.equals(want)) {
            wrong++;
            System.out.println(test + ": " + call + "\n  answered " + got + "\n  due is   " + want + sentence);
        }
    }

    int wrongCount() {
        return wrong;
    }

    void end() {
        System.out.println(test + ": " + asked + " answers, " + wrong + " not as due");
        if (wrong != 0) {
            System.exit(1);
        }
    }
}
