/** The kinds of instructions by name, and programs written as rows of kinds and numbers. */
final class Code {
    static final int PUSH = 0;
    static final int LOAD = 1;
    static final int STORE = 2;
    static final int DO = 3;
    static final int JUMP = 4;
    static final int IFZERO = 5;
    static final int GET = 6;
    static final int LAY = 7;
    static final int OUT = 8;
    static final int HALT = 9;

    static final int VARIABLE = 0;
    static final int ARRAY = 1;
    static final int CHANNEL = 2;

    static final int NONE = SecretLoom.NONE;

    private Code() {
    }

    static SecretLoom loom(int... code) {
        SecretLoom x = new SecretLoom();
        load(x, code);
        return x;
    }

    static void load(SecretLoom x, int... code) {
        x.clear();
        for (int i = 0; i + 1 < code.length; i += 2) {
            if (x.instruction(code[i], code[i + 1]) != i / 2) {
                throw new IllegalStateException("instruction " + i / 2 + " did not come");
            }
        }
    }

    /** The same instruction several times, and then others. */
    static int[] times(int times, int kind, int number, int... then) {
        int[] code = new int[2 * times + then.length];
        for (int i = 0; i < times; i++) {
            code[2 * i] = kind;
            code[2 * i + 1] = number;
        }
        System.arraycopy(then, 0, code, 2 * times, then.length);
        return code;
    }

    /** JUMPs from 0 on, each to the place behind it, and then others. */
    static int[] jumps(int jumps, int... then) {
        int[] code = times(jumps, JUMP, 0, then);
        for (int i = 0; i < jumps; i++) {
            code[2 * i + 1] = i + 1;
        }
        return code;
    }

    static int[] join(int[] code, int... then) {
        int[] joined = java.util.Arrays.copyOf(code, code.length + then.length);
        System.arraycopy(then, 0, joined, code.length, then.length);
        return joined;
    }

    /** Numbers that are none of 0 .. count - 1: just beside, and those that some narrowing takes for one. */
    static int[] outside(int count) {
        return new int[] {
            Integer.MIN_VALUE, -count - 1, -count, -1, count, count + 1, 2 * count, count + 64, count + 256,
            1 << 16, Integer.MAX_VALUE - count, Integer.MAX_VALUE
        };
    }
}
