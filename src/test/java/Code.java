/** The kinds of instructions by name, and programs written as rows of kinds and numbers. */
final class Code {
    static final int PUSH = 0;
    static final int LOAD = 1;
    static final int STORE = 2;
    static final int DO = 3;
    static final int JUMP = 4;
    static final int IFZERO = 5;
    static final int GET = 6;
    static final int LAY = 7;
    static final int OUT = 8;
    static final int HALT = 9;

    static final int VARIABLE = 0;
    static final int ARRAY = 1;
    static final int CHANNEL = 2;

    static final int NONE = SecretLoom.NONE;

    private Code() {
    }

    static SecretLoom loom(int... code) {
        SecretLoom x = new SecretLoom();
        load(x, code);
        return x;
    }

    static void load(SecretLoom x, int... code) {
        x.clear();
        for (int i = 0; i + 1 < code.length; i += 2) {
            if (x.instruction(code[i], code[i + 1]) != i / 2) {
                throw new IllegalStateException("instruction " + i / 2 + " did not come");
            }
        }
    }
}
