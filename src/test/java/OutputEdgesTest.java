/** Outputs that are empty, just full and just more than full, and the first that is kept or not. */
public final class OutputEdgesTest {
    private static final Due DUE = new Due("OutputEdgesTest");

    public static void main(String[] args) {
        withoutRun();
        nothingPutOut();
        aroundHundred();
        wideAcrossHundred();
        keptAreTheFirst();
        afterTheRun();
        anew();
        DUE.end();
    }

    private static void isEmpty(String what, FrameBackEnd x) {
        DUE.is("output(-1) " + what, x.output(-1), 0);
        int[] tried = {Integer.MIN_VALUE, -100, -2, 0, 1, 99, 100, Integer.MAX_VALUE};
        for (int k : tried) {
            DUE.is("output(" + k + ") " + what, x.output(k), -1);
        }
    }

    private static void withoutRun() {
        DUE.by("k = -1: how many were put out (0 if there is no run)");
        isEmpty("of a new object", new FrameBackEnd());
        FrameBackEnd x = Programs.given("FUNCTION 1", "OUT 0", "GOTO 0");
        isEmpty("without code", x);
        x.compile();
        isEmpty("without run", x);
        x.start();
        x.run(1000);
        x.compile();
        isEmpty("behind compile()", x);
        x.start();
        x.run(1000);
        x.variable(1);
        isEmpty("behind variable()", x);
        DUE.is("compile()", x.compile(), 0);
        isEmpty("without run", x);
    }

    private static void nothingPutOut() {
        DUE.by("The byte that was put out k-th (from 0; the first 100 are kept); -1 if there is none.");
        FrameBackEnd x = Programs.started("FUNCTION 1", "SET 0 5", "RETURN 0");
        isEmpty("at the start", x);
        x.run(1000);
        isEmpty("at the end", x);
    }

    /** Puts out 1, 2, 3 and so on, by three instructions each. */
    private static FrameBackEnd counting(int puts) {
        FrameBackEnd x = Programs.started("FUNCTION 1 1", "SET 1 1", "ADD 0 0 1", "OUT 0", "GOTO 1");
        x.run(1 + 3 * puts);
        return x;
    }

    private static void aroundHundred() {
        DUE.by("(from 0; the first 100 are kept)");
        for (int puts = 97; puts <= 103; puts++) {
            FrameBackEnd x = counting(puts);
            DUE.is("output(-1)", x.output(-1), puts);
            for (int k = 95; k <= 104; k++) {
                DUE.is("output(" + k + ") of " + puts, x.output(k), k < puts && k < 100 ? k + 1 : -1);
            }
        }
    }

    /** The low byte of the 50th WIDE, behind one BYTE, is the 100th byte; its high byte is not kept. */
    private static void wideAcrossHundred() {
        DUE.by("15 OUT a: the low byte of a is put out, then, if a is a WIDE, the high one");
        FrameBackEnd x = Programs.started("FUNCTION 1 2", "OUT 0", "SET 1 772", "OUT 1", "GOTO 2");
        x.run(2 + 2 * 49);
        DUE.is("output(-1)", x.output(-1), 99);
        DUE.is("output(98)", x.output(98), 3);
        DUE.is("output(99)", x.output(99), -1);
        x.run(1);
        DUE.is("output(-1)", x.output(-1), 101);
        DUE.is("output(99)", x.output(99), 4);
        DUE.is("output(100)", x.output(100), -1);
    }

    private static void keptAreTheFirst() {
        DUE.by("(from 0; the first 100 are kept)");
        FrameBackEnd x = counting(300);
        DUE.is("output(-1)", x.output(-1), 300);
        for (int k = 0; k < 100; k++) {
            DUE.is("output(" + k + ")", x.output(k), k + 1);
        }
        for (int k = 100; k < 110; k++) {
            DUE.is("output(" + k + ")", x.output(k), -1);
        }
        DUE.is("output(299)", x.output(299), -1);
        DUE.is("output(300)", x.output(300), -1);
    }

    private static void afterTheRun() {
        DUE.by("The byte that was put out k-th (from 0; the first 100 are kept); -1 if there is none.");
        FrameBackEnd ended = Programs.started("FUNCTION 1", "SET 0 255", "OUT 0", "RETURN 0");
        FrameBackEnd fault = Programs.started("FUNCTION 1 3", "SET 0 255", "OUT 0", "LOAD 0 1 0", "RETURN 0");
        ended.run(1000);
        fault.run(1000);
        for (FrameBackEnd x : new FrameBackEnd[] {ended, fault}) {
            DUE.is("output(-1)", x.output(-1), 1);
            DUE.is("output(0)", x.output(0), 255);
            DUE.is("output(1)", x.output(1), -1);
            DUE.is("run(1000)", x.run(1000), 0);
            DUE.is("output(-1)", x.output(-1), 1);
        }
    }

    private static void anew() {
        DUE.by("nothing is put out");
        FrameBackEnd x = counting(150);
        DUE.is("start()", x.start(), true);
        isEmpty("behind start()", x);
        x.run(3);
        DUE.is("output(-1)", x.output(-1), 1);
        DUE.is("output(0)", x.output(0), 1);
        DUE.is("output(1), which the run before put out", x.output(1), -1);
    }
}
