/** Promise 10: address. */
public final class AddressTest {
    private static final Due DUE = new Due("AddressTest");

    public static void main(String[] args) {
        FrameBackEnd x = Programs.given("FUNCTION 1 2", "SET 0 5", "OUT 0", "ADD 1 1 0", "CALL 1 0 0", "RETURN 1",
                "FUNCTION 1", "DOUBLE 0", "RETURN 0", "FUNCTION", "GOTO 0");
        DUE.is("before compile()", x.address(0, 0), -1);
        x.compile();
        int[] addresses = {0, 4, 5, 18, 30};
        for (int i = 0; i < addresses.length; i++) {
            DUE.is("address(0, " + i + ")", x.address(0, i), addresses[i]);
        }
        DUE.is("address(1, 0)", x.address(1, 0), 41);
        DUE.is("address(1, 1)", x.address(1, 1), 43);
        DUE.is("address(2, 0)", x.address(2, 0), 54);
        noSuchInstruction(x);
        x.start();
        x.run(2);
        DUE.is("in a run", x.address(2, 0), 54);
        x.variable(1);
        DUE.is("after variable()", x.address(0, 0), -1);
        behindLongBranches();
        DUE.end();
    }

    private static void noSuchInstruction(FrameBackEnd x) {
        int[][] wrong = {{0, 5}, {0, -1}, {1, 2}, {2, 1}, {3, 0}, {-1, 0}, {5, 0}, {6, 0}, {0, 24}, {0, 60},
            {Integer.MAX_VALUE, 0}, {Integer.MIN_VALUE, 0}, {0, Integer.MAX_VALUE}, {0, Integer.MIN_VALUE}};
        for (int[] pair : wrong) {
            DUE.is("address(" + pair[0] + ", " + pair[1] + ")", x.address(pair[0], pair[1]), -1);
        }
    }

    private static void behindLongBranches() {
        FrameBackEnd x = Programs.compiled(Programs.join(Programs.lines("FUNCTION 2", "ZERO 0 12"),
                Programs.times(11, "ADD 0 0 0"), Programs.lines("GOTO 12", "FUNCTION", "GOTO 0")));
        DUE.is("address(0, 1)", x.address(0, 1), 9);
        DUE.is("address(0, 12)", x.address(0, 12), 9 + 11 * 13);
        DUE.is("address(1, 0)", x.address(1, 0), 9 + 11 * 13 + 3);
        DUE.is("the JMP knows it", x.code(7), 9 + 11 * 13);
    }
}
