/** Promises 1 to 4: a new object, instruction, clear, level. */
public final class ProgramTest {
    private static final Sheet SHEET = new Sheet("ProgramTest");

    public static void main(String[] args) {
        newObjectIsEmpty();
        newObjectsShareNothing();
        kindsAndNumbers();
        sixtyFourAreAll();
        refusedOnesDoNotCome();
        clearKeepsTheRest();
        levelsThatAreThere();
        levelsThatAreNot();
        refusedLevelsChangeNothing();
        SHEET.end();
    }

    private static void newObjectIsEmpty() {
        SecretLoom x = new SecretLoom();
        SHEET.due("check()", x.check(), -1);
        SHEET.due("surrounding(0)", x.surrounding(0), -1);
        SHEET.due("pile(0, 0)", x.pile(0, 0), -1);
        SHEET.due("junction(0)", x.junction(0), -1);
        SHEET.due("run(0, 5)", x.run(0, 5), -1);
        SHEET.due("run(0, 0)", x.run(0, 0), -1);
        SHEET.due("ran(0, 0)", x.ran(0, 0), -1);
        SHEET.due("ran(1, 1)", x.ran(1, 1), -1);
        SHEET.due("out(0, 0, 0)", x.out(0, 0, 0), 0);
        SHEET.due("same(3)", x.same(3), -1);
        for (int what = 0; what < 24; what++) {
            SHEET.due("memory(0, " + what + ")", x.memory(0, what), 0);
            SHEET.due("memory(1, " + what + ")", x.memory(1, what), 0);
        }
        SHEET.due("instruction(9, 0)", x.instruction(9, 0), 0);
    }

    private static void newObjectsShareNothing() {
        SecretLoom x = Code.loom(Code.HALT, 0);
        x.let(0, 0, 5);
        x.run(0, 1);
        SecretLoom y = new SecretLoom();
        SHEET.due("check() of another", y.check(), -1);
        SHEET.due("memory(0, 0) of another", y.memory(0, 0), 0);
        SHEET.due("ran(0, 0) of another", y.ran(0, 0), -1);
    }

    private static void kindsAndNumbers() {
        int[] bounds = {0, 8, 8, 7, 64, 64, 2, 2, 4, 0};
        for (int kind = 0; kind < bounds.length; kind++) {
            for (int number : new int[] {Integer.MIN_VALUE, -1, 0, 1, 2, 3, 4, 6, 7, 8, 63, 64, Integer.MAX_VALUE}) {
                boolean can = bounds[kind] == 0 || number >= 0 && number < bounds[kind];
                SecretLoom x = new SecretLoom();
                SHEET.due("instruction(" + kind + ", " + number + ")", x.instruction(kind, number), can ? 0 : -1);
                SHEET.due("then instruction(9, 0)", x.instruction(9, 0), can ? 1 : 0);
            }
        }
        for (int kind : new int[] {Integer.MIN_VALUE, -1, 10, 11, Integer.MAX_VALUE}) {
            SHEET.due("instruction(" + kind + ", 0)", new SecretLoom().instruction(kind, 0), -1);
        }
    }

    private static void sixtyFourAreAll() {
        SecretLoom x = new SecretLoom();
        for (int i = 0; i < 63; i++) {
            SHEET.due("instruction(4, " + (i + 1) + ")", x.instruction(Code.JUMP, i + 1), i);
        }
        SHEET.due("check() that runs off", x.check(), -1);
        SHEET.due("instruction(9, 0), the 64th", x.instruction(Code.HALT, 0), 63);
        SHEET.due("instruction(9, 0), the 65th", x.instruction(Code.HALT, 0), -1);
        SHEET.due("instruction(0, 0), the 65th", x.instruction(Code.PUSH, 0), -1);
        SHEET.due("check() of 64", x.check(), 0);
        SHEET.due("surrounding(63)", x.surrounding(63), 0);
        SHEET.due("surrounding(64)", x.surrounding(64), -1);
        SHEET.due("run(0, 100)", x.run(0, 100), 64);
    }

    private static void refusedOnesDoNotCome() {
        SecretLoom x = Code.loom(Code.PUSH, 1, Code.OUT, 0, Code.HALT, 0);
        x.instruction(10, 0);
        x.instruction(Code.LOAD, 8);
        SHEET.due("check()", x.check(), 0);
        SHEET.due("surrounding(3)", x.surrounding(3), -1);
        SHEET.due("instruction(9, -7)", x.instruction(Code.HALT, -7), 3);
    }

    private static void clearKeepsTheRest() {
        SecretLoom x = Code.loom(Code.LOAD, 2, Code.OUT, 1, Code.HALT, 0);
        x.level(Code.VARIABLE, 2, 3);
        x.level(Code.ARRAY, 1, 2);
        x.level(Code.CHANNEL, 1, 1);
        x.let(0, 2, 9);
        x.lay(1, 1, 7, 8);
        x.run(0, 10);
        SHEET.due("check()", x.check(), 2);
        x.clear();
        SHEET.due("check() after clear()", x.check(), -1);
        SHEET.due("surrounding(0) after clear()", x.surrounding(0), -1);
        SHEET.due("run(0, 1) after clear()", x.run(0, 1), -1);
        SHEET.due("memory(0, 2) after clear()", x.memory(0, 2), 9);
        SHEET.due("memory(1, 23) after clear()", x.memory(1, 23), 8);
        SHEET.due("ran(0, 0) after clear()", x.ran(0, 0), 1);
        SHEET.due("out(0, 0, 1) after clear()", x.out(0, 0, 1), 9);
        SHEET.due("instruction(1, 2) after clear()", x.instruction(Code.LOAD, 2), 0);
        x.instruction(Code.GET, 1);
        x.instruction(Code.OUT, 1);
        x.instruction(Code.HALT, 0);
        SHEET.due("pile(1, 0) by the level kept", x.pile(1, 0), 3);
        x.level(Code.VARIABLE, 2, 1);
        SHEET.due("pile(2, 0) by the array's level kept", x.pile(2, 0), 3);
        SHEET.due("check() by the channel's level kept", x.check(), 3);
        x.level(Code.ARRAY, 1, 0);
        SHEET.due("check() with the array at 0", x.check(), 0);
    }

    private static void levelsThatAreThere() {
        int[] counts = {8, 2, 4};
        for (int what = 0; what < 3; what++) {
            for (int k = 0; k < counts[what]; k++) {
                for (int level = 0; level < 4; level++) {
                    SecretLoom x = new SecretLoom();
                    Code.load(x, what == 0
                            ? new int[] {Code.LOAD, k, Code.PUSH, 0, Code.HALT, 0}
                            : new int[] {Code.PUSH, 0, Code.GET, k % 2, Code.HALT, 0});
                    SHEET.due("level(" + what + ", " + k + ", " + level + ")", x.level(what, k, level), true);
                    int place = what == 0 ? 1 : 2;
                    SHEET.due("pile by level " + what + " " + k, x.pile(place, 0), what == 2 ? 0 : level);
                }
            }
        }
    }

    private static void levelsThatAreNot() {
        SecretLoom x = new SecretLoom();
        int[] counts = {8, 2, 4};
        for (int what = 0; what < 3; what++) {
            for (int bad : new int[] {Integer.MIN_VALUE, -1, counts[what], 64, Integer.MAX_VALUE}) {
                SHEET.due("level(" + what + ", " + bad + ", 0)", x.level(what, bad, 0), false);
            }
            for (int bad : new int[] {Integer.MIN_VALUE, -1, 4, 5, Integer.MAX_VALUE}) {
                SHEET.due("level(" + what + ", 0, " + bad + ")", x.level(what, 0, bad), false);
            }
        }
        for (int bad : new int[] {Integer.MIN_VALUE, -1, 3, Integer.MAX_VALUE}) {
            SHEET.due("level(" + bad + ", 0, 0)", x.level(bad, 0, 0), false);
        }
    }

    private static void refusedLevelsChangeNothing() {
        SecretLoom x = Code.loom(Code.LOAD, 0, Code.OUT, 0, Code.HALT, 0);
        x.level(Code.VARIABLE, 0, 2);
        x.level(Code.VARIABLE, 0, 4);
        x.level(Code.VARIABLE, 8, 1);
        x.level(3, 0, 1);
        SHEET.due("pile(1, 0)", x.pile(1, 0), 2);
        SHEET.due("check()", x.check(), 2);
    }
}
