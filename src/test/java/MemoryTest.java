/** Promises 9, 10 and 15: let, lay and memory. */
public final class MemoryTest {
    private static final Sheet SHEET = new Sheet("MemoryTest");
    private static final int[] OFF = {Integer.MIN_VALUE, -8, -1, 64, Integer.MAX_VALUE};

    public static void main(String[] args) {
        eachHasAPlaceOfItsOwn();
        memoriesAreTwo();
        anyIntFits();
        whatIsNotThere();
        programsUseTheSameOnes();
        SHEET.end();
    }

    private static SecretLoom filled() {
        SecretLoom x = new SecretLoom();
        for (int m = 0; m < 2; m++) {
            for (int k = 0; k < 8; k++) {
                SHEET.due("let", x.let(m, k, 100 * m + k + 1), true);
                SHEET.due("lay", x.lay(m, 0, k, 100 * m + k + 9), true);
                SHEET.due("lay", x.lay(m, 1, k, 100 * m + k + 17), true);
            }
        }
        return x;
    }

    private static void dueFilled(String name, SecretLoom x) {
        for (int m = 0; m < 2; m++) {
            for (int what = 0; what < 24; what++) {
                SHEET.due(name + ": memory(" + m + ", " + what + ")", x.memory(m, what), 100 * m + what + 1);
            }
        }
    }

    private static void eachHasAPlaceOfItsOwn() {
        dueFilled("filled", filled());
    }

    private static void memoriesAreTwo() {
        SecretLoom x = new SecretLoom();
        x.let(1, 3, 7);
        x.lay(0, 1, 2, 5);
        SHEET.due("memory(0, 3)", x.memory(0, 3), 0);
        SHEET.due("memory(1, 3)", x.memory(1, 3), 7);
        SHEET.due("memory(0, 18)", x.memory(0, 18), 5);
        SHEET.due("memory(1, 18)", x.memory(1, 18), 0);
    }

    private static void anyIntFits() {
        SecretLoom x = new SecretLoom();
        x.let(0, 7, Integer.MIN_VALUE);
        x.lay(0, 0, 0, Integer.MAX_VALUE);
        SHEET.due("memory(0, 7)", x.memory(0, 7), Integer.MIN_VALUE);
        SHEET.due("memory(0, 8)", x.memory(0, 8), Integer.MAX_VALUE);
        SHEET.due("let again", x.let(0, 7, 0), true);
        SHEET.due("memory(0, 7)", x.memory(0, 7), 0);
    }

    private static void whatIsNotThere() {
        SecretLoom x = filled();
        for (int bad : OFF) {
            SHEET.due("let m " + bad, x.let(bad, 0, 55), false);
            SHEET.due("let x " + bad, x.let(0, bad, 55), false);
            SHEET.due("lay m " + bad, x.lay(bad, 0, 0, 55), false);
            SHEET.due("lay array " + bad, x.lay(1, bad, 0, 55), false);
            SHEET.due("lay i " + bad, x.lay(1, 1, bad, 55), false);
            SHEET.due("memory m " + bad, x.memory(bad, 0), 0);
            SHEET.due("memory what " + bad, x.memory(0, bad), 0);
        }
        SHEET.due("let(2, 0, 55)", x.let(2, 0, 55), false);
        SHEET.due("let(0, 8, 55)", x.let(0, 8, 55), false);
        SHEET.due("lay(2, 0, 0, 55)", x.lay(2, 0, 0, 55), false);
        SHEET.due("lay(0, 2, 0, 55)", x.lay(0, 2, 0, 55), false);
        SHEET.due("lay(0, 0, 8, 55)", x.lay(0, 0, 8, 55), false);
        SHEET.due("memory(2, 0)", x.memory(2, 0), 0);
        SHEET.due("memory(0, 24)", x.memory(0, 24), 0);
        dueFilled("after wrong calls", x);
    }

    private static void programsUseTheSameOnes() {
        SecretLoom x = filled();
        Code.load(x, Code.LOAD, 7, Code.STORE, 0, Code.PUSH, 7, Code.GET, 1, Code.STORE, 1,
                Code.PUSH, 0, Code.PUSH, 77, Code.LAY, 1, Code.HALT, 0);
        SHEET.due("run(1, 100)", x.run(1, 100), 9);
        SHEET.due("memory(1, 0)", x.memory(1, 0), 108);
        SHEET.due("memory(1, 1)", x.memory(1, 1), 124);
        SHEET.due("memory(1, 16)", x.memory(1, 16), 77);
        SHEET.due("memory(1, 8)", x.memory(1, 8), 109);
        SHEET.due("memory(0, 0)", x.memory(0, 0), 1);
        SHEET.due("memory(0, 16)", x.memory(0, 16), 17);
    }
}
