/** Promise 17: value. */
public final class ValueTest {
    private static final Due DUE = new Due("ValueTest");

    public static void main(String[] args) {
        FrameBackEnd x = Programs.given("FUNCTION 1 2 4", "SET 0 2", "SET 1 1000", "STORE 2 0 1", "CALL 1 1 0",
                "RETURN 0", "FUNCTION 2 1", "SET 1 9", "RETURN 1");
        DUE.is("without code", x.value(0, 0), -1);
        x.compile();
        DUE.is("without run", x.value(0, 0), -1);
        x.start();
        x.run(3);
        DUE.is("value(0, 0)", x.value(0, 0), 2);
        DUE.is("value(1, 0)", x.value(1, 0), 232);
        DUE.is("value(1, 1)", x.value(1, 1), 3);
        int[] array = {0, 0, 232, 0};
        for (int i = 0; i < array.length; i++) {
            DUE.is("value(2, " + i + ")", x.value(2, i), array[i]);
        }
        noSuchByte(x);
        x.run(1);
        DUE.is("in function 1", x.value(0, 0), 232);
        DUE.is("its high byte", x.value(0, 1), 3);
        DUE.is("a variable that only function 0 has", x.value(2, 0), -1);
        x.run(1);
        DUE.is("value(1, 0) of function 1", x.value(1, 0), 9);
        x.run(1);
        DUE.is("back in function 0", x.value(0, 0), 9);
        x.run(1);
        DUE.is("at the end", x.value(0, 0), -1);
        sixVariables();
        sharedPlaces();
        afterFault();
        DUE.end();
    }

    private static void noSuchByte(FrameBackEnd x) {
        int[][] wrong = {{0, 1}, {0, -1}, {1, 2}, {2, 4}, {3, 0}, {-1, 0}, {5, 0}, {6, 0}, {0, 127},
            {Integer.MAX_VALUE, 0}, {Integer.MIN_VALUE, 0}, {0, Integer.MAX_VALUE}, {0, Integer.MIN_VALUE}};
        for (int[] pair : wrong) {
            DUE.is("value(" + pair[0] + ", " + pair[1] + ")", x.value(pair[0], pair[1]), -1);
        }
    }

    private static void sixVariables() {
        FrameBackEnd x = Programs.started("FUNCTION 8 8 8 8 8 8", "GOTO 0");
        DUE.is("value(5, 7)", x.value(5, 7), 0);
        DUE.is("value(5, 8)", x.value(5, 8), -1);
        DUE.is("value(6, 0)", x.value(6, 0), -1);
    }

    /** Functions 1 and 2 are never active together: the one finds in its frame what the other left there. */
    private static void sharedPlaces() {
        FrameBackEnd x = Programs.started("FUNCTION 1", "SET 0 6", "CALL 1 0 0", "CALL 2 0 0", "RETURN 0",
                "FUNCTION 1 2", "SET 1 4660", "RETURN 0", "FUNCTION 3", "GOTO 0");
        x.run(5);
        DUE.is("next()", x.next(), 48);
        DUE.is("value(0, 0)", x.value(0, 0), 6);
        DUE.is("value(0, 1)", x.value(0, 1), 4660 % 256);
        DUE.is("value(0, 2)", x.value(0, 2), 4660 / 256);
    }

    private static void afterFault() {
        FrameBackEnd x = Programs.started("FUNCTION 1 3", "SET 0 3", "STORE 1 0 0", "RETURN 0");
        x.run(1);
        DUE.is("before the FAULT", x.value(0, 0), 3);
        x.run(1);
        DUE.is("after it", x.value(0, 0), -1);
    }
}
