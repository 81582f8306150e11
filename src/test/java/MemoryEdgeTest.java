/** Promises 9, 10 and 15: each sentence of theirs that names a boundary. */
public final class MemoryEdgeTest {
    private static final Sheet SHEET = new Sheet("MemoryEdgeTest");
    private static final int[] VALUES = {Integer.MIN_VALUE, -1, 0, 1, Integer.MAX_VALUE};

    public static void main(String[] args) {
        eachVariable();
        noMemoryToLet();
        noVariableToLet();
        eachIntOfAnArray();
        noMemoryToLay();
        noArrayToLay();
        noIndexToLay();
        eachOfAMemory();
        noMemoryToAsk();
        nothingToAsk();
        SHEET.end();
    }

    private static void dueAlone(String name, SecretLoom x, int m, int what, int v) {
        int[] want = new int[48];
        want[24 * m + what] = v;
        int[] got = new int[48];
        for (int k = 0; k < 48; k++) {
            got[k] = x.memory(k / 24, k % 24);
        }
        SHEET.due("ints after " + name, got, want);
    }

    private static void eachVariable() {
        SHEET.sentence("9: A variable of memory m, 0 or 1, is v: true");
        for (int m = 0; m < 2; m++) {
            for (int k = 0; k < 8; k++) {
                SecretLoom x = new SecretLoom();
                for (int v : VALUES) {
                    String call = "let(" + m + ", " + k + ", " + v + ")";
                    SHEET.due(call, x.let(m, k, v), true);
                    dueAlone(call, x, m, k, v);
                }
            }
        }
    }

    private static void refusedLet(int m, int k) {
        Busy.refused(SHEET, "let(" + m + ", " + k + ", 55)", 0, x -> x.let(m, k, 55) ? 1 : 0);
    }

    private static void noMemoryToLet() {
        SHEET.sentence("9: false if there is none such");
        for (int m : Code.outside(2)) {
            refusedLet(m, 0);
            refusedLet(m, 7);
        }
    }

    private static void noVariableToLet() {
        SHEET.sentence("9: false if there is none such");
        // 8 to 23 are ints of arrays where memory is asked for: none of them is a variable.
        for (int k = 8; k < 25; k++) {
            refusedLet(0, k);
        }
        for (int k : Code.outside(8)) {
            refusedLet(0, k);
            refusedLet(1, k);
        }
    }

    private static void eachIntOfAnArray() {
        SHEET.sentence("10: An int of an array of memory m, 0 or 1, at an index 0 .. 7 is v: true");
        for (int m = 0; m < 2; m++) {
            for (int k = 0; k < 16; k++) {
                SecretLoom x = new SecretLoom();
                for (int v : VALUES) {
                    String call = "lay(" + m + ", " + k / 8 + ", " + k % 8 + ", " + v + ")";
                    SHEET.due(call, x.lay(m, k / 8, k % 8, v), true);
                    dueAlone(call, x, m, 8 + k, v);
                }
            }
        }
    }

    private static void refusedLay(int m, int array, int i) {
        Busy.refused(SHEET, "lay(" + m + ", " + array + ", " + i + ", 55)", 0, x -> x.lay(m, array, i, 55) ? 1 : 0);
    }

    private static void noMemoryToLay() {
        SHEET.sentence("10: false if there is none such");
        for (int m : Code.outside(2)) {
            refusedLay(m, 0, 0);
            refusedLay(m, 1, 7);
        }
    }

    private static void noArrayToLay() {
        SHEET.sentence("10: false if there is none such");
        for (int array : Code.outside(2)) {
            refusedLay(0, array, 0);
            refusedLay(1, array, 7);
        }
    }

    private static void noIndexToLay() {
        SHEET.sentence("10: false if there is none such");
        for (int i : Code.outside(8)) {
            refusedLay(0, 0, i);
            refusedLay(1, 1, i);
        }
    }

    private static void eachOfAMemory() {
        SHEET.sentence("15: A variable (what 0..7) or an int of array 0 (8 .. 15) or 1 (16 .. 23) of a memory");
        SecretLoom x = Busy.loom();
        for (int what : new int[] {0, 1, 7, 8, 9, 15, 16, 17, 23}) {
            SHEET.due("memory(0, " + what + ")", x.memory(0, what), what + 1);
            SHEET.due("memory(1, " + what + ")", x.memory(1, what), what + 101);
        }
    }

    private static void noMemoryToAsk() {
        SHEET.sentence("15: 0 if there is none such");
        SecretLoom x = Busy.loom();
        for (int m : Code.outside(2)) {
            for (int what : new int[] {0, 7, 8, 23}) {
                SHEET.due("memory(" + m + ", " + what + ")", x.memory(m, what), 0);
            }
        }
    }

    private static void nothingToAsk() {
        SHEET.sentence("15: 0 if there is none such");
        SecretLoom x = Busy.loom();
        for (int what : Code.outside(24)) {
            SHEET.due("memory(0, " + what + ")", x.memory(0, what), 0);
            SHEET.due("memory(1, " + what + ")", x.memory(1, what), 0);
        }
    }
}
