import java.util.Arrays;

/** The sentences of the document's terms, with ordinary inputs: each kind of instruction, each rule of the types. */
public final class TermsTest {
    private static final Sheet SHEET = new Sheet("TermsTest");
    private static final int[] COUNTS = {8, 2, 4};
    /** The place of the first instruction that within(..) puts into a region. */
    private static final int FIRST = 4;

    public static void main(String[] args) {
        pushPuts();
        loadAndStoreEach();
        doTakesTwo();
        equalAndLessByEachBit();
        jumpToEach();
        ifzeroToEach();
        layTakesTheValueFirst();
        outOnEach();
        haltEndsIt();
        theNextFollows();
        ownersAreTwo();
        pushLevels();
        loadLevels();
        doLevels();
        getLevels();
        followersHaveAtLeastThat();
        theLeastOnes();
        storesThatAreSafe();
        laysThatAreSafe();
        outsThatAreSafe();
        othersAreSafe();
        SHEET.end();
    }

    private static void dueOut(String name, int want, int... code) {
        SecretLoom x = Code.loom(Code.join(code, Code.OUT, 0, Code.HALT, 0));
        x.run(0, 100);
        SHEET.due("what comes out of " + name, x.out(0, 0, 1), want);
    }

    private static void levelOfAll(SecretLoom x, int what, int level) {
        for (int k = 0; k < COUNTS[what]; k++) {
            x.level(what, k, level);
        }
    }

    /** Instructions, FIRST the first of them, in the region of an IFZERO that takes a variable; no junction. */
    private static SecretLoom within(int variable, int... body) {
        return Code.loom(Code.join(
                new int[] {Code.LOAD, variable, Code.IFZERO, 3, Code.JUMP, FIRST, Code.HALT, 0}, body));
    }

    private static void pushPuts() {
        SHEET.sentence("0 PUSH n");
        for (int bit = 0; bit < 32; bit++) {
            dueOut("PUSH", 1 << bit, Code.PUSH, 1 << bit);
        }
    }

    private static void loadAndStoreEach() {
        SHEET.sentence("1 LOAD x, 2 STORE x: variable x onto the pile, from it");
        for (int m = 0; m < 2; m++) {
            for (int from = 0; from < 8; from++) {
                for (int to = 0; to < 8; to++) {
                    SecretLoom x = Code.loom(Code.LOAD, from, Code.STORE, to, Code.HALT, 0);
                    int[] want = new int[8];
                    for (int k = 0; k < 8; k++) {
                        want[k] = 10 + k;
                        x.let(m, k, want[k]);
                    }
                    want[to] = want[from];
                    x.run(m, 10);
                    int[] got = new int[8];
                    for (int k = 0; k < 8; k++) {
                        got[k] = x.memory(m, k);
                    }
                    SHEET.due("variables after LOAD " + from + ", STORE " + to, got, want);
                }
            }
        }
    }

    private static void doTakesTwo() {
        SHEET.sentence("3 DO k: the upper one b and the lower one a are taken, and put is, by k");
        int[] want = {13, 7, 30, 0, 0, 2, 11};
        int[] turned = {13, -7, 30, 1, 0, 2, 11};
        for (int k = 0; k < 7; k++) {
            dueOut("10, 3, DO " + k, want[k], Code.PUSH, 10, Code.PUSH, 3, Code.DO, k);
            dueOut("3, 10, DO " + k, turned[k], Code.PUSH, 3, Code.PUSH, 10, Code.DO, k);
        }
    }

    private static void equalAndLessByEachBit() {
        SHEET.sentence("3 whether a < b (1, else 0), 4 whether they are equal");
        int[] values = {0, -1, 1_234_567_890, Integer.MIN_VALUE};
        for (int a : values) {
            for (int bit = 0; bit < 32; bit++) {
                int b = a ^ 1 << bit;
                dueOut(a + " equal " + b, 0, Code.PUSH, a, Code.PUSH, b, Code.DO, 4);
                // The one bit that differs tells which is less: of the sign bit it is who has it.
                boolean aHasIt = (a >>> bit & 1) == 1;
                dueOut(a + " less " + b, aHasIt == (bit == 31) ? 1 : 0, Code.PUSH, a, Code.PUSH, b, Code.DO, 3);
            }
            dueOut(a + " equal itself", 1, Code.PUSH, a, Code.PUSH, a, Code.DO, 4);
        }
    }

    private static void jumpToEach() {
        SHEET.sentence("4 JUMP t: on at instruction t");
        for (int t = 1; t < 64; t++) {
            int[] code = Code.jumps(63, Code.HALT, 0);
            code[1] = t;
            SHEET.due("run(0, 100) of JUMP " + t, Code.loom(code).run(0, 100), 1 + 64 - t);
        }
    }

    private static void ifzeroToEach() {
        SHEET.sentence("5 IFZERO t: one is taken; if it is 0, on at t");
        for (int t = 2; t < 64; t++) {
            int[] code = Code.jumps(63, Code.HALT, 0);
            code[0] = Code.LOAD;
            code[1] = 6;
            code[2] = Code.IFZERO;
            code[3] = t;
            SecretLoom x = Code.loom(code);
            x.let(1, 6, 5);
            SHEET.due("run(0, 100) of IFZERO " + t + " with 0", x.run(0, 100), 2 + 64 - t);
            SHEET.due("run(1, 100) of IFZERO " + t + " with 5", x.run(1, 100), 64);
        }
    }

    private static void layTakesTheValueFirst() {
        SHEET.sentence("7 LAY a: a value (the upper one) and an index are taken");
        for (int array = 0; array < 2; array++) {
            for (int index = 0; index < 8; index++) {
                SecretLoom x = Code.loom(Code.PUSH, index, Code.PUSH, 30 + index, Code.LAY, array, Code.HALT, 0);
                x.run(0, 10);
                for (int what = 8; what < 24; what++) {
                    SHEET.due("memory(0, " + what + ") after LAY " + array + " at " + index, x.memory(0, what),
                            what == 8 + 8 * array + index ? 30 + index : 0);
                }
            }
        }
    }

    private static void outOnEach() {
        SHEET.sentence("8 OUT c: one is taken and comes out on channel c");
        for (int c = 0; c < 4; c++) {
            SecretLoom x = Code.loom(Code.PUSH, 21, Code.PUSH, 22, Code.OUT, c, Code.OUT, 3 - c, Code.HALT, 0);
            SHEET.due("run(1, 10)", x.run(1, 10), 5);
            SHEET.due("ran(1, 1)", x.ran(1, 1), 2);
            SHEET.due("channel of the first by OUT " + c, x.out(1, 0, 0), c);
            SHEET.due("the first by OUT " + c, x.out(1, 0, 1), 22);
            SHEET.due("channel of the second by OUT " + (3 - c), x.out(1, 1, 0), 3 - c);
            SHEET.due("the second by OUT " + (3 - c), x.out(1, 1, 1), 21);
        }
    }

    private static void haltEndsIt() {
        SHEET.sentence("9 HALT");
        SecretLoom x = Code.loom(Code.PUSH, 5, Code.HALT, 0, Code.OUT, 0, Code.HALT, 0);
        SHEET.due("run(0, 10)", x.run(0, 10), 2);
        SHEET.due("ran(0, 0)", x.ran(0, 0), 1);
        SHEET.due("ran(0, 1)", x.ran(0, 1), 0);
    }

    private static void theNextFollows() {
        SHEET.sentence("Without a jump the next instruction follows");
        SecretLoom x = Code.loom(Code.PUSH, 1, Code.GET, 0, Code.LOAD, 0, Code.DO, 0, Code.STORE, 0, Code.PUSH, 2,
                Code.PUSH, 3, Code.LAY, 1, Code.PUSH, 1, Code.IFZERO, 0, Code.PUSH, 4, Code.OUT, 0, Code.HALT, 0);
        for (int n = 1; n < 15; n++) {
            SHEET.due("run(0, " + n + ")", x.run(0, n), Math.min(n, 13));
            SHEET.due("memory(0, 18) after " + n, x.memory(0, 18), n < 8 ? 0 : 3);
            SHEET.due("ran(0, 1) after " + n, x.ran(0, 1), n < 12 ? 0 : 1);
            SHEET.due("ran(0, 0) after " + n, x.ran(0, 0), n < 13 ? 0 : 1);
        }
    }

    /** A loop with a branch in it; the surroundings and the lowest levels on the piles. */
    private static int[] typesWith(int first, int second) {
        SecretLoom x = Code.loom(Code.PUSH, 0, Code.LOAD, 0, Code.IFZERO, 9, Code.LOAD, 1, Code.DO, 0, Code.LOAD, 1,
                Code.IFZERO, 8, Code.JUMP, 1, Code.JUMP, 1, Code.OUT, 0, Code.HALT, 0);
        x.level(Code.VARIABLE, 0, first);
        x.level(Code.VARIABLE, 1, second);
        int[] types = new int[22];
        for (int place = 0; place < 11; place++) {
            types[place] = x.surrounding(place);
            types[11 + place] = Math.max(x.pile(place, 0), 0);
        }
        return types;
    }

    private static void ownersAreTwo() {
        SHEET.sentence("LEVELS are 0 .. 3, sets of two owners (bits 1 and 2)");
        // What belongs to one owner is found as if there were no other.
        for (int first = 0; first < 4; first++) {
            for (int second = 0; second < 4; second++) {
                int[] of1 = typesWith(first & 1, second & 1);
                int[] of2 = typesWith(first & 2, second & 2);
                int[] want = new int[22];
                for (int i = 0; i < want.length; i++) {
                    want[i] = of1[i] | of2[i];
                }
                SHEET.due("types with " + first + " and " + second, typesWith(first, second), want);
            }
        }
        SHEET.due("types with 1 and 0", typesWith(1, 0),
                new int[] {0, 1, 1, 1, 1, 1, 1, 1, 1, 0, 0, 0, 1, 1, 1, 1, 1, 1, 1, 1, 1, 0});
        SHEET.due("types with 0 and 2", typesWith(0, 2),
                new int[] {0, 0, 0, 0, 0, 0, 0, 2, 2, 0, 0, 0, 2, 2, 2, 2, 2, 2, 2, 2, 2, 0});
    }

    private static void pushLevels() {
        SHEET.sentence("PUSH puts its surrounding");
        for (int around = 0; around < 4; around++) {
            SecretLoom x = within(7, Code.PUSH, 1, Code.HALT, 0);
            x.level(Code.VARIABLE, 7, around);
            SHEET.due("surrounding(4) in " + around, x.surrounding(FIRST), around);
            SHEET.due("pile(5, 0) in " + around, x.pile(FIRST + 1, 0), around);
            SHEET.due("pile(1, 0), LOAD outside", x.pile(1, 0), around);
            SHEET.due("surrounding(0)", x.surrounding(0), 0);
        }
    }

    private static void loadLevels() {
        SHEET.sentence("LOAD x the level of x and the surrounding together");
        for (int k = 0; k < 8; k++) {
            for (int i = 0; i < 16; i++) {
                int around = i % 4;
                int level = i / 4;
                int other = (k + 1) % 8;
                SecretLoom x = within(other, Code.LOAD, k, Code.HALT, 0);
                levelOfAll(x, Code.VARIABLE, 3 - level);
                x.level(Code.VARIABLE, other, around);
                x.level(Code.VARIABLE, k, level);
                SHEET.due("pile(5, 0), LOAD " + k + " of " + level + " in " + around, x.pile(FIRST + 1, 0),
                        level | around);
            }
        }
    }

    private static void doLevels() {
        SHEET.sentence("DO that of both, and the surrounding");
        for (int k = 0; k < 7; k++) {
            for (int i = 0; i < 64; i++) {
                SecretLoom x = within(2, Code.LOAD, 0, Code.LOAD, 1, Code.DO, k, Code.HALT, 0);
                x.level(Code.VARIABLE, 0, i % 4);
                x.level(Code.VARIABLE, 1, i / 4 % 4);
                x.level(Code.VARIABLE, 2, i / 16);
                SHEET.due("pile(7, 0), DO " + k + " of " + i, x.pile(FIRST + 3, 0), i % 4 | i / 4 % 4 | i / 16);
            }
        }
    }

    private static void getLevels() {
        SHEET.sentence("GET the level of the array, of the index and the surrounding");
        for (int array = 0; array < 2; array++) {
            for (int i = 0; i < 64; i++) {
                SecretLoom x = within(2, Code.LOAD, 0, Code.GET, array, Code.HALT, 0);
                x.level(Code.VARIABLE, 0, i % 4);
                x.level(Code.ARRAY, array, i / 4 % 4);
                x.level(Code.ARRAY, 1 - array, 3 - i / 4 % 4);
                x.level(Code.VARIABLE, 2, i / 16);
                SHEET.due("pile(6, 0), GET " + array + " of " + i, x.pile(FIRST + 2, 0), i % 4 | i / 4 % 4 | i / 16);
            }
        }
    }

    private static void followersHaveAtLeastThat() {
        SHEET.sentence("The followers of an instruction have on their piles at least what it leaves");
        // Four ways come to 14, each with another variable on the pile.
        int[] code = {Code.PUSH, 0, Code.IFZERO, 8, Code.PUSH, 0, Code.IFZERO, 6, Code.LOAD, 0, Code.JUMP, 14,
            Code.LOAD, 1, Code.JUMP, 14, Code.PUSH, 0, Code.IFZERO, 12, Code.LOAD, 2, Code.JUMP, 14,
            Code.LOAD, 3, Code.JUMP, 14, Code.HALT, 0};
        for (int i = 0; i < 256; i++) {
            SecretLoom x = Code.loom(code);
            int together = 0;
            for (int variable = 0; variable < 4; variable++) {
                int level = i >> 2 * variable & 3;
                x.level(Code.VARIABLE, variable, level);
                together |= level;
                SHEET.due("pile behind LOAD " + variable, x.pile(5 + 2 * variable + variable / 2 * 2, 0), level);
            }
            SHEET.due("pile(14, 0) with levels " + i, x.pile(14, 0), together);
        }
    }

    private static void dueAllZero(String name, int... code) {
        SecretLoom x = Code.loom(code);
        // Of what the program does not use, all levels are high.
        for (int k = 4; k < 8; k++) {
            x.level(Code.VARIABLE, k, 3);
        }
        levelOfAll(x, Code.CHANNEL, 3);
        for (int place = 0; place < code.length / 2; place++) {
            SHEET.due(name + ": surrounding(" + place + ")", x.surrounding(place), 0);
            for (int i = 0; i < 2; i++) {
                SHEET.due(name + ": pile(" + place + ", " + i + ") is not raised", x.pile(place, i) > 0, false);
            }
        }
        SHEET.due(name + ": check()", x.check(), 0);
    }

    private static void theLeastOnes() {
        SHEET.sentence("the least ones with which all this is so");
        // Round and round higher levels would hold too.
        dueAllZero("a loop", Code.LOAD, 0, Code.IFZERO, 7, Code.LOAD, 0, Code.PUSH, 1, Code.DO, 1, Code.STORE, 0,
                Code.JUMP, 0, Code.HALT, 0);
        dueAllZero("a sum on the pile", Code.PUSH, 0, Code.PUSH, 1, Code.DO, 0, Code.LOAD, 1, Code.IFZERO, 1,
                Code.OUT, 0, Code.HALT, 0);
        dueAllZero("no HALT", Code.LOAD, 0, Code.IFZERO, 0, Code.LOAD, 1, Code.IFZERO, 0, Code.JUMP, 0);
        dueAllZero("a branch by what it gets", Code.LOAD, 0, Code.GET, 0, Code.IFZERO, 0, Code.PUSH, 1, Code.STORE, 2,
                Code.LOAD, 2, Code.IFZERO, 0, Code.HALT, 0);
    }

    private static void storesThatAreSafe() {
        SHEET.sentence("of STORE x the level of what it takes and its surrounding are below the level of x");
        for (int k = 0; k < 8; k++) {
            for (int i = 0; i < 64; i++) {
                int taken = i % 4;
                int around = i / 4 % 4;
                int to = i / 16;
                SecretLoom x = within((k + 1) % 8, Code.LOAD, (k + 2) % 8, Code.STORE, k, Code.HALT, 0);
                levelOfAll(x, Code.VARIABLE, 3 - to);
                x.level(Code.VARIABLE, (k + 1) % 8, around);
                x.level(Code.VARIABLE, (k + 2) % 8, taken);
                x.level(Code.VARIABLE, k, to);
                SHEET.due("check(), STORE " + k + " of " + taken + " in " + around + " to " + to, x.check(),
                        (taken | around | to) == to ? 0 : FIRST + 2);
            }
        }
    }

    private static void laysThatAreSafe() {
        SHEET.sentence("of LAY those of value, index and surrounding below the level of the array");
        for (int array = 0; array < 2; array++) {
            for (int i = 0; i < 256; i++) {
                int all = i % 4 | i / 4 % 4 | i / 16 % 4;
                int to = i / 64;
                SecretLoom x = within(2, Code.LOAD, 0, Code.LOAD, 1, Code.LAY, array, Code.HALT, 0);
                x.level(Code.VARIABLE, 0, i % 4);
                x.level(Code.VARIABLE, 1, i / 4 % 4);
                x.level(Code.VARIABLE, 2, i / 16 % 4);
                x.level(Code.ARRAY, array, to);
                x.level(Code.ARRAY, 1 - array, 3 - to);
                SHEET.due("check(), LAY " + array + " of " + i, x.check(), (all | to) == to ? 0 : FIRST + 3);
            }
        }
    }

    private static void outsThatAreSafe() {
        SHEET.sentence("of OUT those of what it takes and its surrounding below the level of the channel");
        for (int c = 0; c < 4; c++) {
            for (int i = 0; i < 64; i++) {
                int all = i % 4 | i / 4 % 4;
                int to = i / 16;
                SecretLoom x = within(1, Code.LOAD, 0, Code.OUT, c, Code.HALT, 0);
                x.level(Code.VARIABLE, 0, i % 4);
                x.level(Code.VARIABLE, 1, i / 4 % 4);
                levelOfAll(x, Code.CHANNEL, 3 - to);
                x.level(Code.CHANNEL, c, to);
                SHEET.due("check(), OUT " + c + " of " + i, x.check(), (all | to) == to ? 0 : FIRST + 2);
            }
        }
    }

    private static void othersAreSafe() {
        SHEET.sentence("5: 0 if the program is well formed and all instructions that are met are safe");
        int[][] bodies = {
            {Code.HALT, 0},
            {Code.PUSH, 1, Code.HALT, 0},
            {Code.LOAD, 0, Code.HALT, 0},
            {Code.LOAD, 0, Code.LOAD, 1, Code.DO, 0, Code.HALT, 0},
            {Code.JUMP, FIRST + 1, Code.HALT, 0},
            {Code.LOAD, 1, Code.IFZERO, FIRST + 2, Code.HALT, 0},
            {Code.LOAD, 1, Code.GET, 0, Code.HALT, 0},
        };
        for (int[] body : bodies) {
            SecretLoom x = within(1, body);
            x.level(Code.VARIABLE, 1, 3);
            SHEET.due("check() of " + Arrays.toString(body), x.check(), 0);
            SHEET.due("surrounding(4)", x.surrounding(FIRST), 3);
        }
    }
}
