/** Promise 8: junction. */
public final class JunctionTest {
    private static final Sheet SHEET = new Sheet("JunctionTest");

    public static void main(String[] args) {
        wherePathsMeet();
        behindTheHalt();
        loops();
        noHalt();
        oneWayNeverHalts();
        nearestByWaysNotByPlaces();
        whatIsNone();
        withSixtyFour();
        oneProgramAfterAnother();
        SHEET.end();
    }

    private static void due(int want, int place, int... code) {
        SHEET.due("junction(" + place + ") of " + java.util.Arrays.toString(code),
                Code.loom(code).junction(place), want);
    }

    private static void wherePathsMeet() {
        due(4, 1, Code.LOAD, 0, Code.IFZERO, 4, Code.PUSH, 1, Code.STORE, 1, Code.HALT, 0);
        due(5, 1, Code.LOAD, 0, Code.IFZERO, 4, Code.PUSH, 1, Code.JUMP, 5, Code.PUSH, 2, Code.OUT, 0, Code.HALT, 0);
        due(2, 1, Code.LOAD, 0, Code.IFZERO, 2, Code.HALT, 0);
    }

    private static void behindTheHalt() {
        due(4, 1, Code.LOAD, 0, Code.IFZERO, 3, Code.HALT, 0, Code.HALT, 0);
        // What is not met counts among the instructions.
        due(6, 1, Code.LOAD, 0, Code.IFZERO, 3, Code.HALT, 0, Code.HALT, 0, Code.PUSH, 0, Code.PUSH, 0);
    }

    private static void loops() {
        due(7, 1, Code.LOAD, 0, Code.IFZERO, 7, Code.LOAD, 0, Code.PUSH, 1, Code.DO, 1, Code.STORE, 0, Code.JUMP, 0,
                Code.HALT, 0);
        // Back if it is 0, else on.
        due(2, 1, Code.LOAD, 0, Code.IFZERO, 0, Code.HALT, 0);
        // The loop's head is on the way of one branch alone.
        int[] twoExits = {Code.LOAD, 0, Code.IFZERO, 5, Code.LOAD, 1, Code.IFZERO, 0, Code.HALT, 0, Code.HALT, 0};
        due(6, 1, twoExits);
        due(6, 3, twoExits);
    }

    private static void noHalt() {
        due(-1, 1, Code.LOAD, 0, Code.IFZERO, 0, Code.JUMP, 0);
        // There is a HALT, but not on a way from it.
        due(-1, 4, Code.LOAD, 0, Code.IFZERO, 3, Code.HALT, 0, Code.LOAD, 0, Code.IFZERO, 3, Code.JUMP, 3);
    }

    private static void oneWayNeverHalts() {
        due(2, 1, Code.LOAD, 0, Code.IFZERO, 3, Code.HALT, 0, Code.JUMP, 3);
        due(2, 1, Code.LOAD, 0, Code.IFZERO, 4, Code.PUSH, 0, Code.JUMP, 5, Code.JUMP, 4, Code.OUT, 0, Code.HALT, 0);
    }

    private static void nearestByWaysNotByPlaces() {
        // 1 goes to 7 or 9, both to 4, and that over 5 to the HALT at 3.
        due(4, 1, Code.LOAD, 0, Code.IFZERO, 9, Code.JUMP, 7, Code.HALT, 0, Code.JUMP, 5, Code.JUMP, 3,
                Code.HALT, 0, Code.JUMP, 4, Code.HALT, 0, Code.JUMP, 4);
        due(5, 1, Code.LOAD, 0, Code.IFZERO, 4, Code.JUMP, 5, Code.HALT, 0, Code.JUMP, 5, Code.JUMP, 3);
    }

    private static void whatIsNone() {
        SecretLoom x = Code.loom(Code.LOAD, 0, Code.IFZERO, 3, Code.JUMP, 3, Code.HALT, 0, Code.IFZERO, 3);
        SHEET.due("junction(1)", x.junction(1), 3);
        SHEET.due("junction(0), no IFZERO", x.junction(0), -1);
        SHEET.due("junction(3), no IFZERO", x.junction(3), -1);
        SHEET.due("junction(4), not met", x.junction(4), -1);
        for (int bad : new int[] {Integer.MIN_VALUE, -63, -1, 5, 63, 64, 65, Integer.MAX_VALUE}) {
            SHEET.due("junction(" + bad + ")", x.junction(bad), -1);
        }
        due(-1, 1, Code.LOAD, 0, Code.IFZERO, 3, Code.HALT, 0, Code.PUSH, 0);
    }

    private static void oneProgramAfterAnother() {
        SecretLoom x = Code.loom(Code.LOAD, 0, Code.IFZERO, 5, Code.LOAD, 0, Code.IFZERO, 0, Code.HALT, 0,
                Code.HALT, 0);
        SHEET.due("junction(1) of the first", x.junction(1), 6);
        Code.load(x, Code.LOAD, 0, Code.IFZERO, 3, Code.JUMP, 3, Code.JUMP, 4, Code.JUMP, 5, Code.HALT, 0);
        SHEET.due("junction(1) of the second", x.junction(1), 3);
        SHEET.due("junction(3) of the second", x.junction(3), -1);
        Code.load(x, Code.LOAD, 0, Code.IFZERO, 0, Code.JUMP, 0);
        SHEET.due("junction(1) of the third", x.junction(1), -1);
        x.instruction(Code.HALT, 0);
        SHEET.due("junction(1) with a HALT that is not met", x.junction(1), -1);
        Code.load(x, Code.LOAD, 0, Code.IFZERO, 0);
        SHEET.due("junction(1), not yet well formed", x.junction(1), -1);
        x.instruction(Code.HALT, 0);
        SHEET.due("junction(1), now well formed", x.junction(1), 2);
    }

    private static void withSixtyFour() {
        SecretLoom x = new SecretLoom();
        x.instruction(Code.LOAD, 0);
        x.instruction(Code.IFZERO, 63);
        for (int i = 2; i < 62; i++) {
            x.instruction(Code.JUMP, i + 1);
        }
        x.instruction(Code.HALT, 0);
        SHEET.due("junction(1), target not there", x.junction(1), -1);
        x.instruction(Code.HALT, 0);
        x.level(Code.VARIABLE, 0, 1);
        SHEET.due("junction(1), behind 64", x.junction(1), 64);
        SHEET.due("surrounding(0)", x.surrounding(0), 0);
        SHEET.due("surrounding(1)", x.surrounding(1), 0);
        SHEET.due("surrounding(2)", x.surrounding(2), 1);
        SHEET.due("surrounding(63)", x.surrounding(63), 1);
        x.clear();
        for (int i = 0; i < 62; i++) {
            x.instruction(i % 2 == 0 ? Code.LOAD : Code.IFZERO, i % 2 == 0 ? 1 : 63);
        }
        x.instruction(Code.JUMP, 63);
        x.instruction(Code.HALT, 0);
        SHEET.due("junction(1) to the last place", x.junction(1), 63);
        SHEET.due("junction(61) to the last place", x.junction(61), 63);
    }
}
