/** Promises 11, 12 and 13: run, ran and out. */
public final class RunTest {
    private static final Sheet SHEET = new Sheet("RunTest");
    private static final int[] OFF = {Integer.MIN_VALUE, -1, 2, 3, 64, Integer.MAX_VALUE};

    public static void main(String[] args) {
        operations();
        indexesModuloEight();
        jumps();
        howManyAreDone();
        noneBelowOne();
        tenThousandAtMost();
        notWellFormed();
        noSuchMemory();
        sixtyFourAreKept();
        latestAlone();
        memoriesApart();
        pileIsEmptyAtFirst();
        SHEET.end();
    }

    private static void operations() {
        int[][] pairs = {{7, 3}, {3, 7}, {-5, -5}, {0, -1}, {Integer.MAX_VALUE, 1}, {Integer.MIN_VALUE, -1},
            {Integer.MIN_VALUE, Integer.MAX_VALUE}, {65536, 65536}, {12, 10}};
        for (int[] pair : pairs) {
            int a = pair[0];
            int b = pair[1];
            int[] want = {a + b, a - b, a * b, a < b ? 1 : 0, a == b ? 1 : 0, a & b, a | b};
            for (int k = 0; k < want.length; k++) {
                SecretLoom x = Code.loom(Code.PUSH, a, Code.PUSH, b, Code.DO, k, Code.OUT, 2, Code.HALT, 0);
                SHEET.due("run of DO " + k, x.run(0, 100), 5);
                SHEET.due("DO " + k + " of " + a + " and " + b, x.out(0, 0, 1), want[k]);
                SHEET.due("its channel", x.out(0, 0, 0), 2);
            }
        }
    }

    private static void indexesModuloEight() {
        for (int index : new int[] {0, 1, 7, 8, 15, -1, -8, -9, Integer.MIN_VALUE, Integer.MAX_VALUE}) {
            for (int array = 0; array < 2; array++) {
                SecretLoom x = Code.loom(Code.PUSH, index, Code.PUSH, 5, Code.LAY, array, Code.PUSH, index,
                        Code.GET, array, Code.OUT, 0, Code.HALT, 0);
                x.run(0, 100);
                SHEET.due("GET " + index, x.out(0, 0, 1), 5);
                for (int what = 0; what < 24; what++) {
                    int want = what == 8 + 8 * array + Math.floorMod(index, 8) ? 5 : 0;
                    SHEET.due("LAY " + index + ": memory(0, " + what + ")", x.memory(0, what), want);
                }
            }
        }
    }

    private static void jumps() {
        SecretLoom x = Code.loom(Code.LOAD, 0, Code.IFZERO, 5, Code.PUSH, 1, Code.OUT, 0, Code.HALT, 0, Code.PUSH, 2,
                Code.OUT, 1, Code.JUMP, 4);
        SHEET.due("run(0, 100) with 0", x.run(0, 100), 6);
        SHEET.due("out(0, 0, 1) with 0", x.out(0, 0, 1), 2);
        for (int v : new int[] {1, -1, Integer.MIN_VALUE}) {
            x.let(0, 0, v);
            SHEET.due("run(0, 100) with " + v, x.run(0, 100), 5);
            SHEET.due("out(0, 0, 1) with " + v, x.out(0, 0, 1), 1);
        }
    }

    private static void howManyAreDone() {
        SecretLoom x = Code.loom(Code.PUSH, 1, Code.OUT, 0, Code.PUSH, 2, Code.OUT, 1, Code.HALT, 0);
        for (int n = 1; n <= 7; n++) {
            SHEET.due("run(0, " + n + ")", x.run(0, n), Math.min(n, 5));
            SHEET.due("ran(0, 0) of " + n, x.ran(0, 0), n >= 5 ? 1 : 0);
            SHEET.due("ran(0, 1) of " + n, x.ran(0, 1), n < 2 ? 0 : n < 4 ? 1 : 2);
        }
        SHEET.due("ran(1, 0)", x.ran(1, 0), -1);
        SHEET.due("ran(1, 1)", x.ran(1, 1), -1);
        for (int bad : OFF) {
            SHEET.due("ran(" + bad + ", 0)", x.ran(bad, 0), -1);
            SHEET.due("ran(0, " + bad + ")", x.ran(0, bad), -1);
            SHEET.due("out(" + bad + ", 0, 1)", x.out(bad, 0, 1), 0);
            SHEET.due("out(0, 1, " + bad + ")", x.out(0, 1, bad), 0);
        }
        for (int bad : new int[] {Integer.MIN_VALUE, -1, 2, 63, 64, Integer.MAX_VALUE}) {
            SHEET.due("out(0, " + bad + ", 1)", x.out(0, bad, 1), 0);
            SHEET.due("out(0, " + bad + ", 0)", x.out(0, bad, 0), 0);
        }
        SHEET.due("out(0, 1, 0)", x.out(0, 1, 0), 1);
        SHEET.due("out(0, 1, 1)", x.out(0, 1, 1), 2);
    }

    private static void noneBelowOne() {
        for (int n : new int[] {0, -1, Integer.MIN_VALUE}) {
            SecretLoom x = Code.loom(Code.PUSH, 1, Code.STORE, 0, Code.PUSH, 8, Code.OUT, 3, Code.HALT, 0);
            SHEET.due("run(0, " + n + ") as the first", x.run(0, n), 0);
            SHEET.due("ran(0, 0)", x.ran(0, 0), 0);
            SHEET.due("ran(0, 1)", x.ran(0, 1), 0);
            SHEET.due("memory(0, 0)", x.memory(0, 0), 0);
            x.run(0, 9);
            SHEET.due("ran(0, 0)", x.ran(0, 0), 1);
            SHEET.due("run(0, " + n + ") after another", x.run(0, n), 0);
            SHEET.due("ran(0, 0)", x.ran(0, 0), 0);
            SHEET.due("ran(0, 1)", x.ran(0, 1), 0);
            SHEET.due("out(0, 0, 0)", x.out(0, 0, 0), 0);
            SHEET.due("out(0, 0, 1)", x.out(0, 0, 1), 0);
        }
    }

    private static void tenThousandAtMost() {
        SecretLoom x = Code.loom(Code.LOAD, 0, Code.PUSH, 1, Code.DO, 0, Code.STORE, 0, Code.JUMP, 0);
        int[] most = {9_999, 10_000, 10_001, Integer.MAX_VALUE};
        int[] rounds = {2_000, 2_000, 2_000, 2_000};
        for (int i = 0; i < most.length; i++) {
            x.let(0, 0, 0);
            SHEET.due("run(0, " + most[i] + ")", x.run(0, most[i]), Math.min(most[i], 10_000));
            SHEET.due("rounds of " + most[i], x.memory(0, 0), rounds[i]);
            SHEET.due("ran(0, 0)", x.ran(0, 0), 0);
        }
    }

    private static void notWellFormed() {
        SecretLoom x = Code.loom(Code.PUSH, 3, Code.OUT, 2, Code.HALT, 0);
        x.run(0, 10);
        Code.load(x, Code.PUSH, 1, Code.STORE, 0, Code.STORE, 1, Code.HALT, 0);
        for (int n : new int[] {-1, 0, 1, 2, 100}) {
            SHEET.due("run(0, " + n + ") not well formed", x.run(0, n), -1);
            SHEET.due("run(1, " + n + ") not well formed", x.run(1, n), -1);
        }
        SHEET.due("memory(0, 0)", x.memory(0, 0), 0);
        SHEET.due("ran(0, 0)", x.ran(0, 0), 1);
        SHEET.due("ran(0, 1)", x.ran(0, 1), 1);
        SHEET.due("out(0, 0, 1)", x.out(0, 0, 1), 3);
        SHEET.due("ran(1, 0)", x.ran(1, 0), -1);
        // Not safe is well formed all the same.
        Code.load(x, Code.LOAD, 0, Code.OUT, 0, Code.HALT, 0);
        x.level(Code.VARIABLE, 0, 1);
        SHEET.due("check()", x.check(), 2);
        SHEET.due("run(0, 10) not safe", x.run(0, 10), 3);
    }

    private static void noSuchMemory() {
        SecretLoom x = Code.loom(Code.PUSH, 3, Code.STORE, 2, Code.HALT, 0);
        for (int bad : OFF) {
            SHEET.due("run(" + bad + ", 10)", x.run(bad, 10), -1);
            SHEET.due("run(" + bad + ", 0)", x.run(bad, 0), -1);
        }
        SHEET.due("ran(0, 0)", x.ran(0, 0), -1);
        SHEET.due("ran(1, 0)", x.ran(1, 0), -1);
        SHEET.due("memory(0, 2)", x.memory(0, 2), 0);
    }

    private static void sixtyFourAreKept() {
        // Comes out: 1, 2, 3 ..
        SecretLoom x = Code.loom(Code.LOAD, 0, Code.PUSH, 1, Code.DO, 0, Code.STORE, 0, Code.LOAD, 0, Code.OUT, 3,
                Code.JUMP, 0);
        for (int count : new int[] {63, 64, 65, 1_428}) {
            x.let(0, 0, 0);
            SHEET.due("run", x.run(0, 7 * count), 7 * count);
            SHEET.due("ran(0, 1)", x.ran(0, 1), count);
            for (int i = 60; i < 70; i++) {
                boolean there = i < 64 && i < count;
                SHEET.due("out(0, " + i + ", 1) of " + count, x.out(0, i, 1), there ? i + 1 : 0);
                SHEET.due("out(0, " + i + ", 0) of " + count, x.out(0, i, 0), there ? 3 : 0);
            }
        }
    }

    private static void latestAlone() {
        SecretLoom x = Code.loom(Code.PUSH, 1, Code.OUT, 1, Code.PUSH, 2, Code.OUT, 2, Code.HALT, 0);
        x.run(0, 10);
        Code.load(x, Code.PUSH, 7, Code.OUT, 3, Code.HALT, 0);
        SHEET.due("out(0, 1, 1) of the run before", x.out(0, 1, 1), 2);
        x.run(0, 10);
        SHEET.due("ran(0, 1)", x.ran(0, 1), 1);
        SHEET.due("out(0, 0, 0)", x.out(0, 0, 0), 3);
        SHEET.due("out(0, 0, 1)", x.out(0, 0, 1), 7);
        SHEET.due("out(0, 1, 0)", x.out(0, 1, 0), 0);
        SHEET.due("out(0, 1, 1)", x.out(0, 1, 1), 0);
    }

    private static void memoriesApart() {
        SecretLoom x = Code.loom(Code.LOAD, 4, Code.OUT, 0, Code.HALT, 0);
        x.let(0, 4, 10);
        x.let(1, 4, 11);
        x.run(0, 10);
        SHEET.due("ran(1, 0)", x.ran(1, 0), -1);
        SHEET.due("out(1, 0, 1)", x.out(1, 0, 1), 0);
        x.run(1, 2);
        SHEET.due("out(0, 0, 1)", x.out(0, 0, 1), 10);
        SHEET.due("out(1, 0, 1)", x.out(1, 0, 1), 11);
        SHEET.due("ran(0, 0)", x.ran(0, 0), 1);
        SHEET.due("ran(1, 0)", x.ran(1, 0), 0);
    }

    private static void pileIsEmptyAtFirst() {
        SecretLoom x = new SecretLoom();
        for (int i = 0; i < 16; i++) {
            x.instruction(Code.PUSH, i);
        }
        for (int i = 0; i < 16; i++) {
            x.instruction(Code.OUT, 0);
        }
        x.instruction(Code.HALT, 0);
        for (int round = 0; round < 3; round++) {
            SHEET.due("run(0, 16)", x.run(0, 16), 16);
            SHEET.due("run(0, 40)", x.run(0, 40), 33);
            for (int i = 0; i < 16; i++) {
                SHEET.due("out(0, " + i + ", 1)", x.out(0, i, 1), 15 - i);
            }
        }
        x.run(0, 16);
        Code.load(x, Code.PUSH, 77, Code.OUT, 0, Code.HALT, 0);
        SHEET.due("run(0, 40) after a run that left 16", x.run(0, 40), 3);
        SHEET.due("out(0, 0, 1)", x.out(0, 0, 1), 77);
    }
}
