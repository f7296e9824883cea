/** LOAD and STORE with every index of every ARRAY: those below its size, and those that are a FAULT. */
public final class FaultEdgesTest {
    private static final Due DUE = new Due("FaultEdgesTest");

    public static void main(String[] args) {
        everyIndex();
        otherBytesStay();
        faultStopsTheRun();
        faultInCalledFunction();
        faultAtTheLastCount();
        faultBeforeAnything();
        onlyTheEnd();
        DUE.end();
    }

    private static void everyIndex() {
        DUE.by("both FAULT if b is not less than the size of t");
        for (int size = 3; size <= 8; size++) {
            for (int index = 0; index < 256; index++) {
                boolean inside = index < size;
                for (int width = 1; width <= 2; width++) {
                    one("LOAD 1 2 0", size, width, index, inside);
                    one("STORE 2 0 1", size, width, index, inside);
                }
            }
        }
    }

    private static void one(String line, int size, int width, int index, boolean inside) {
        String what = line + " with " + index + " of " + size;
        FrameBackEnd x = Programs.started("FUNCTION 1 " + width + " " + size, "SET 0 " + index, line, "GOTO 2");
        DUE.is("run(3), " + what, x.run(3), inside ? 3 : 2);
        DUE.is("state(), " + what, x.state(), inside ? 0 : 2);
        DUE.is("next()", x.next(), inside ? 2 : -1);
        int steps = line.startsWith("STORE") || width == 1 ? 5 : 7;
        DUE.is("spent(), " + what, x.spent(), 2 + (inside ? steps + 1 : 4));
    }

    /** All bytes are 170 before it: the index at 0, the source at 1, the ARRAY at 2, a BYTE and a WIDE behind it. */
    private static void otherBytesStay() {
        DUE.by("9 STORE t b c, likewise: byte b of t becomes the low byte of c");
        for (int size = 3; size <= 8; size++) {
            for (int index = 0; index < size; index++) {
                FrameBackEnd x = Programs.started("FUNCTION 1 1 " + size + " 1 2", "SET 0 " + index, "SET 1 85",
                        "SET 3 170", "SET 4 43690", "STORE 2 0 1", "LOAD 1 2 0", "GOTO 0");
                x.run(5);
                for (int i = 0; i < size; i++) {
                    DUE.is("byte " + i + " of " + size, x.value(2, i), i == index ? 85 : 0);
                }
                DUE.is("the index", x.value(0, 0), index);
                DUE.is("the BYTE behind the ARRAY", x.value(3, 0), 170);
                DUE.is("the WIDE behind it", x.value(4, 0), 170);
                x.run(1);
                DUE.is("LOAD", x.value(1, 0), 85);
                DUE.is("it takes nothing away", x.value(2, index), 85);
            }
        }
    }

    private static void faultStopsTheRun() {
        DUE.by("0 if the run goes on, 1 if it ended, 2 after a FAULT; -1 if there is no run.");
        FrameBackEnd x = Programs.started("FUNCTION 1 3", "OUT 0", "SET 0 3", "LOAD 0 1 0", "OUT 0", "RETURN 0");
        DUE.is("run(2)", x.run(2), 2);
        DUE.is("state()", x.state(), 0);
        DUE.is("run(1)", x.run(1), 1);
        for (int n = 0; n <= 1000; n += 250) {
            DUE.is("state()", x.state(), 2);
            DUE.is("run(" + n + ") after it", x.run(n), 0);
        }
        DUE.is("next()", x.next(), -1);
        DUE.is("depth()", x.depth(), 0);
        DUE.is("value(0, 0)", x.value(0, 0), -1);
        DUE.is("spent()", x.spent(), 2 + 2 + 4);
        DUE.is("output(-1)", x.output(-1), 1);
        DUE.is("output(0)", x.output(0), 0);
        DUE.is("length()", x.length() > 0, true);
    }

    private static void faultInCalledFunction() {
        DUE.by("0 if the run does not go on or there is none");
        FrameBackEnd x = Programs.started("FUNCTION 1", "SET 0 255", "CALL 1 0 0", "RETURN 0",
                "FUNCTION 1 8", "STORE 1 0 0", "RETURN 0");
        x.run(2);
        DUE.is("depth()", x.depth(), 2);
        DUE.is("run(9)", x.run(9), 1);
        DUE.is("state()", x.state(), 2);
        DUE.is("depth()", x.depth(), 0);
        DUE.is("start()", x.start(), true);
        DUE.is("depth()", x.depth(), 1);
        DUE.is("run(1000)", x.run(1000), 3);
    }

    private static void faultAtTheLastCount() {
        DUE.by("fewer if it ends or there is a FAULT: how many were done .. the one with the FAULT counts");
        for (int n = 0; n <= 4; n++) {
            FrameBackEnd x = Programs.started("FUNCTION 1 3", "SET 0 3", "STORE 1 0 0", "RETURN 0");
            DUE.is("run(" + n + ")", x.run(n), Math.min(n, 2));
            DUE.is("state()", x.state(), n < 2 ? 0 : 2);
        }
    }

    private static void faultBeforeAnything() {
        DUE.by("How many instructions of the processor were done since the start (a TRAP counts)");
        FrameBackEnd x = Programs.started("FUNCTION 1", "SET 0 8", "CALL 1 0 0", "RETURN 0",
                "FUNCTION 1 8", "LOAD 0 1 0", "RETURN 0");
        x.run(2);
        int before = x.spent();
        x.run(1);
        DUE.is("LDX, CPX, BCC, TRAP", x.spent() - before, 4);
        x.run(1000);
        DUE.is("and no more", x.spent() - before, 4);
    }

    private static void onlyTheEnd() {
        DUE.by("in function 0, where it was not called, the program ENDS");
        FrameBackEnd x = Programs.started("FUNCTION 1", "CALL 1 0 0", "RETURN 0", "RETURN 0", "FUNCTION 1", "RETURN 0");
        DUE.is("run(2)", x.run(2), 2);
        DUE.is("RETURN in function 1: state()", x.state(), 0);
        DUE.is("run(2)", x.run(2), 1);
        DUE.is("RETURN in function 0: state()", x.state(), 1);
        DUE.is("next()", x.next(), -1);
        DUE.is("run(1000)", x.run(1000), 0);
        DUE.is("state()", x.state(), 1);
    }
}
