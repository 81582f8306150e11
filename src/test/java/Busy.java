import java.util.function.ToIntFunction;

/** An object with something in all its parts, and all that can be seen of it: for calls that change nothing. */
final class Busy {
    static final int[] CODE = {Code.LOAD, 0, Code.IFZERO, 4, Code.PUSH, 5, Code.OUT, 1, Code.LOAD, 1, Code.OUT, 0,
        Code.HALT, 0};
    static final int SIZE = CODE.length / 2;
    /** Of the variables, the arrays and the channels. */
    static final int[] LEVELS = {1, 0, 3, 2, 1, 2, 3, 1, 2, 3, 0, 1, 2, 3};

    private static final int VARIABLES = 8;
    private static final int ARRAYS = 2;
    private static final int CHANNELS = 4;

    private Busy() {
    }

    /** Program, levels, memories, and two runs that came to a HALT: 72 calls. */
    static SecretLoom loom() {
        SecretLoom x = new SecretLoom();
        Code.load(x, CODE);
        for (int k = 0; k < VARIABLES; k++) {
            x.level(Code.VARIABLE, k, LEVELS[k]);
        }
        for (int k = 0; k < ARRAYS; k++) {
            x.level(Code.ARRAY, k, LEVELS[VARIABLES + k]);
        }
        for (int k = 0; k < CHANNELS; k++) {
            x.level(Code.CHANNEL, k, LEVELS[VARIABLES + ARRAYS + k]);
        }
        for (int m = 0; m < 2; m++) {
            for (int k = 0; k < 8; k++) {
                x.let(m, k, 100 * m + k + 1);
                x.lay(m, 0, k, 100 * m + k + 9);
                x.lay(m, 1, k, 100 * m + k + 17);
            }
            x.run(m, 50);
        }
        return x;
    }

    /** All that can be asked without a change, of the first places: 101 calls. */
    static int[] seen(SecretLoom x) {
        int[] seen = new int[101];
        int at = 0;
        seen[at++] = x.check();
        for (int place = 0; place < 8; place++) {
            seen[at++] = x.surrounding(place);
            seen[at++] = x.junction(place);
            seen[at++] = x.pile(place, 0);
            seen[at++] = x.pile(place, 1);
        }
        for (int k = 0; k < 4; k++) {
            seen[at++] = x.same(k);
            seen[at++] = x.ran(k / 2, k % 2);
        }
        for (int k = 0; k < 12; k++) {
            seen[at++] = x.out(k % 2, k / 4, k / 2 % 2);
        }
        for (int k = 0; k < 48; k++) {
            seen[at++] = x.memory(k % 2, k / 2);
        }
        return seen;
    }

    /** All levels, at the price of the program and of variable 0's level: 74 calls. */
    static int[] levels(SecretLoom x) {
        int[] levels = new int[VARIABLES + ARRAYS + CHANNELS];
        for (int k = 0; k < VARIABLES; k++) {
            Code.load(x, Code.LOAD, k, Code.HALT, 0);
            levels[k] = x.pile(1, 0);
        }
        for (int k = 0; k < ARRAYS; k++) {
            Code.load(x, Code.PUSH, 0, Code.GET, k, Code.HALT, 0);
            levels[VARIABLES + k] = x.pile(2, 0);
        }
        for (int k = 0; k < CHANNELS; k++) {
            Code.load(x, Code.LOAD, 0, Code.OUT, k, Code.HALT, 0);
            for (int owner = 1; owner <= 2; owner++) {
                x.level(Code.VARIABLE, 0, owner);
                levels[VARIABLES + ARRAYS + k] |= x.check() == 0 ? owner : 0;
            }
        }
        return levels;
    }

    /** A call that is refused: what it answers, and that nothing is changed by it. */
    static void refused(Sheet sheet, String call, int want, ToIntFunction<SecretLoom> made) {
        SecretLoom x = loom();
        int[] before = seen(x);
        sheet.due(call, made.applyAsInt(x), want);
        sheet.due("answers after " + call, seen(x), before);
        sheet.due("the next place after " + call, x.instruction(Code.HALT, 0), SIZE);
        sheet.due("levels after " + call, levels(x), LEVELS);
    }
}
