/** Promise 5: check, with what is well formed and what is safe. */
public final class CheckTest {
    private static final Sheet SHEET = new Sheet("CheckTest");

    public static void main(String[] args) {
        allThatComesNextIsThere();
        whatIsTakenIsThere();
        neverMoreThanSixteen();
        asManyWhateverWay();
        whatIsNotMetDoesNotMatter();
        safeStores();
        safeLays();
        safeOuts();
        belowIsBitByBit();
        surroundingsCount();
        theFirstOfSeveral();
        levelsCanChange();
        SHEET.end();
    }

    private static void dueCheck(int want, int... code) {
        SHEET.due("check() of " + java.util.Arrays.toString(code), Code.loom(code).check(), want);
    }

    private static void allThatComesNextIsThere() {
        dueCheck(-1);
        dueCheck(0, Code.HALT, 0);
        dueCheck(-1, Code.PUSH, 0);
        dueCheck(-1, Code.JUMP, 1);
        dueCheck(-1, Code.JUMP, 63);
        dueCheck(0, Code.JUMP, 0);
        dueCheck(-1, Code.PUSH, 0, Code.IFZERO, 3, Code.HALT, 0);
        dueCheck(-1, Code.JUMP, 2, Code.HALT, 0, Code.PUSH, 0, Code.IFZERO, 0);
        dueCheck(-1, Code.JUMP, 2, Code.HALT, 0, Code.PUSH, 0, Code.IFZERO, 1);
        dueCheck(0, Code.JUMP, 2, Code.HALT, 0, Code.PUSH, 0, Code.IFZERO, 1, Code.JUMP, 4);
    }

    private static void whatIsTakenIsThere() {
        int[] takes = {0, 0, 1, 2, 0, 1, 1, 2, 1, 0};
        for (int kind = 0; kind < takes.length; kind++) {
            if (kind == Code.JUMP) {
                continue;
            }
            for (int there = 0; there < 3; there++) {
                SecretLoom x = new SecretLoom();
                for (int i = 0; i < there; i++) {
                    x.instruction(Code.PUSH, i);
                }
                x.instruction(kind, kind == Code.IFZERO ? there + 1 : 0);
                x.instruction(Code.HALT, 0);
                SHEET.due("check() with kind " + kind + " and " + there, x.check(), there < takes[kind] ? -1 : 0);
            }
        }
    }

    private static void neverMoreThanSixteen() {
        for (int pushes = 15; pushes <= 17; pushes++) {
            SecretLoom x = new SecretLoom();
            for (int i = 0; i < pushes; i++) {
                x.instruction(Code.PUSH, 0);
            }
            x.instruction(Code.GET, 0);
            x.instruction(Code.HALT, 0);
            SHEET.due("check() with " + pushes, x.check(), pushes <= 16 ? 0 : -1);
            SHEET.due("pile(.., 15) with " + pushes, x.pile(pushes, 15), pushes == 16 ? 0 : -1);
        }
        SecretLoom x = new SecretLoom();
        for (int i = 0; i < 16; i++) {
            x.instruction(Code.LOAD, 0);
        }
        x.instruction(Code.LOAD, 0);
        x.instruction(Code.HALT, 0);
        SHEET.due("check() with 17 LOADs", x.check(), -1);
    }

    private static void asManyWhateverWay() {
        dueCheck(-1, Code.PUSH, 1, Code.JUMP, 0);
        dueCheck(-1, Code.LOAD, 0, Code.IFZERO, 3, Code.PUSH, 1, Code.HALT, 0);
        dueCheck(0, Code.LOAD, 0, Code.IFZERO, 3, Code.HALT, 0, Code.HALT, 0);
        dueCheck(-1, Code.PUSH, 0, Code.PUSH, 0, Code.IFZERO, 2, Code.HALT, 0);
        dueCheck(0, Code.LOAD, 0, Code.IFZERO, 4, Code.PUSH, 1, Code.JUMP, 5, Code.PUSH, 2, Code.OUT, 0, Code.HALT, 0);
    }

    private static void whatIsNotMetDoesNotMatter() {
        dueCheck(0, Code.HALT, 0, Code.STORE, 0);
        dueCheck(0, Code.JUMP, 2, Code.JUMP, 60, Code.HALT, 0, Code.PUSH, 1);
        SecretLoom x = Code.loom(Code.JUMP, 3, Code.LOAD, 0, Code.OUT, 0, Code.HALT, 0);
        x.level(Code.VARIABLE, 0, 3);
        SHEET.due("check() with an unsafe one that is not met", x.check(), 0);
    }

    private static void safeStores() {
        for (int from = 0; from < 4; from++) {
            for (int to = 0; to < 4; to++) {
                SecretLoom x = Code.loom(Code.LOAD, 6, Code.STORE, 7, Code.HALT, 0);
                x.level(Code.VARIABLE, 6, from);
                x.level(Code.VARIABLE, 7, to);
                SHEET.due("check() of STORE " + from + " to " + to, x.check(), (from | to) == to ? 0 : 2);
            }
        }
    }

    private static void safeLays() {
        for (int index = 0; index < 4; index++) {
            for (int value = 0; value < 4; value++) {
                for (int to = 0; to < 4; to++) {
                    SecretLoom x = Code.loom(Code.LOAD, 0, Code.LOAD, 1, Code.LAY, 1, Code.HALT, 0);
                    x.level(Code.VARIABLE, 0, index);
                    x.level(Code.VARIABLE, 1, value);
                    x.level(Code.ARRAY, 1, to);
                    SHEET.due("check() of LAY " + index + " " + value + " to " + to, x.check(),
                            (index | value | to) == to ? 0 : 3);
                }
            }
        }
    }

    private static void safeOuts() {
        for (int from = 0; from < 4; from++) {
            for (int to = 0; to < 4; to++) {
                SecretLoom x = Code.loom(Code.PUSH, 1, Code.GET, 0, Code.OUT, 3, Code.HALT, 0);
                x.level(Code.ARRAY, 0, from);
                x.level(Code.CHANNEL, 3, to);
                SHEET.due("check() of OUT " + from + " to " + to, x.check(), (from | to) == to ? 0 : 3);
            }
        }
    }

    private static void belowIsBitByBit() {
        SecretLoom x = Code.loom(Code.LOAD, 0, Code.STORE, 1, Code.HALT, 0);
        x.level(Code.VARIABLE, 0, 1);
        x.level(Code.VARIABLE, 1, 2);
        SHEET.due("check() of 1 to 2", x.check(), 2);
        x.level(Code.VARIABLE, 1, 3);
        SHEET.due("check() of 1 to 3", x.check(), 0);
    }

    private static void surroundingsCount() {
        int[][] bodies = {
            {Code.PUSH, 1, Code.STORE, 1},
            {Code.PUSH, 1, Code.PUSH, 2, Code.LAY, 0},
            {Code.PUSH, 1, Code.OUT, 0},
        };
        for (int[] body : bodies) {
            SecretLoom x = new SecretLoom();
            x.instruction(Code.LOAD, 0);
            x.instruction(Code.IFZERO, 2 + body.length / 2);
            for (int i = 0; i < body.length; i += 2) {
                x.instruction(body[i], body[i + 1]);
            }
            x.instruction(Code.HALT, 0);
            SHEET.due("check() with 0", x.check(), 0);
            x.level(Code.VARIABLE, 0, 2);
            SHEET.due("check() with 2", x.check(), 2 + body.length / 2);
        }
        // Pushed before the IFZERO on a way that comes twice: the value is low, the surrounding not.
        SecretLoom x = Code.loom(Code.PUSH, 1, Code.LOAD, 0, Code.IFZERO, 5, Code.OUT, 0, Code.HALT, 0, Code.HALT, 0);
        x.level(Code.VARIABLE, 0, 1);
        SHEET.due("check() of OUT in a region", x.check(), 4);
    }

    private static void theFirstOfSeveral() {
        // The way goes first to 4 .., then to 1 ..: the first is the first by place.
        SecretLoom x = Code.loom(Code.JUMP, 4, Code.LOAD, 0, Code.OUT, 0, Code.HALT, 0,
                Code.LOAD, 0, Code.OUT, 1, Code.JUMP, 1);
        x.level(Code.VARIABLE, 0, 1);
        SHEET.due("check() of two", x.check(), 3);
        x.level(Code.CHANNEL, 0, 1);
        SHEET.due("check() of one", x.check(), 6);
        x.level(Code.CHANNEL, 1, 3);
        SHEET.due("check() of none", x.check(), 0);
        SecretLoom y = Code.loom(Code.LOAD, 0, Code.OUT, 0, Code.HALT, 0);
        y.level(Code.VARIABLE, 0, 1);
        SHEET.due("check(), places from 1 on", y.check(), 2);
    }

    private static void levelsCanChange() {
        SecretLoom x = Code.loom(Code.LOAD, 0, Code.OUT, 0, Code.HALT, 0);
        SHEET.due("check() at first", x.check(), 0);
        x.level(Code.VARIABLE, 0, 3);
        SHEET.due("check() raised", x.check(), 2);
        x.level(Code.VARIABLE, 0, 0);
        SHEET.due("check() lowered", x.check(), 0);
        x.let(0, 0, 5);
        x.run(0, 10);
        SHEET.due("check() after a run", x.check(), 0);
    }
}
