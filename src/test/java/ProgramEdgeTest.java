/** Promises 1 to 4: each sentence of theirs that names a boundary. */
public final class ProgramEdgeTest {
    private static final Sheet SHEET = new Sheet("ProgramEdgeTest");
    /** By kind: how many numbers it can have; 0 where each will do. */
    private static final int[] NUMBERS = {0, 8, 8, 7, 64, 64, 2, 2, 4, 0};

    public static void main(String[] args) {
        noInstructions();
        noSuchKind();
        numbersThatItCanHave();
        numbersThatItCannotHave();
        anyNumberToPush();
        ofNineItDoesNotMatter();
        thereAreSixtyFour();
        clearedOfAll();
        clearedOfNothing();
        levelsStay();
        variablesAndArraysStay();
        eachLevelOfEach();
        noSuchWhat();
        noSuchVariableArrayOrChannel();
        noSuchLevel();
        SHEET.end();
    }

    private static void dueEmpty(String name, SecretLoom x) {
        SHEET.due(name + ": check()", x.check(), -1);
        SHEET.due(name + ": surrounding(0)", x.surrounding(0), -1);
        SHEET.due(name + ": pile(0, 0)", x.pile(0, 0), -1);
        SHEET.due(name + ": junction(0)", x.junction(0), -1);
        SHEET.due(name + ": run(0, 1)", x.run(0, 1), -1);
        SHEET.due(name + ": run(1, 0)", x.run(1, 0), -1);
        SHEET.due(name + ": instruction(9, 0)", x.instruction(Code.HALT, 0), 0);
        SHEET.due(name + ": check() with a HALT", x.check(), 0);
    }

    private static void noInstructions() {
        SHEET.sentence("1: No instructions");
        dueEmpty("a new object", new SecretLoom());
    }

    private static void noSuchKind() {
        SHEET.sentence("2: NONE, and it does not come, if there is no such kind");
        for (int kind : Code.outside(10)) {
            for (int number : new int[] {0, 1}) {
                Busy.refused(SHEET, "instruction(" + kind + ", " + number + ")", -1, x -> x.instruction(kind, number));
            }
        }
    }

    private static void numbersThatItCanHave() {
        SHEET.sentence("2: An instruction more: its place");
        for (int kind = 0; kind < NUMBERS.length; kind++) {
            SecretLoom x = new SecretLoom();
            for (int number = 0; number < Math.max(NUMBERS[kind], 1); number++) {
                SHEET.due("instruction(" + kind + ", " + number + ")", x.instruction(kind, number), number);
            }
        }
    }

    private static void numbersThatItCannotHave() {
        SHEET.sentence("2: the number is none that it can have");
        for (int kind = 0; kind < NUMBERS.length; kind++) {
            if (NUMBERS[kind] == 0) {
                continue;
            }
            int of = kind;
            for (int number : Code.outside(NUMBERS[kind])) {
                Busy.refused(SHEET, "instruction(" + kind + ", " + number + ")", -1, x -> x.instruction(of, number));
            }
        }
    }

    private static void anyNumberToPush() {
        SHEET.sentence("2: An instruction more: its place");
        for (int number : new int[] {Integer.MIN_VALUE, -65, -1, 0, 63, 64, 1 << 16, Integer.MAX_VALUE}) {
            SecretLoom x = Code.loom(Code.PUSH, number, Code.OUT, 0, Code.HALT, 0);
            x.run(0, 10);
            SHEET.due("what PUSH " + number + " put", x.out(0, 0, 1), number);
        }
    }

    private static void ofNineItDoesNotMatter() {
        SHEET.sentence("2: of 9 it does not matter");
        for (int number : Code.outside(64)) {
            SecretLoom x = new SecretLoom();
            SHEET.due("instruction(9, " + number + ")", x.instruction(Code.HALT, number), 0);
            SHEET.due("check() of HALT " + number, x.check(), 0);
            SHEET.due("run(0, 10) of HALT " + number, x.run(0, 10), 1);
            SHEET.due("ran(0, 0) of HALT " + number, x.ran(0, 0), 1);
        }
    }

    private static void thereAreSixtyFour() {
        SHEET.sentence("2: or there are 64");
        SecretLoom x = Busy.loom();
        for (int i = Busy.SIZE; i < 63; i++) {
            x.instruction(Code.PUSH, i);
        }
        SHEET.due("instruction(8, 3), the 64th", x.instruction(Code.OUT, 3), 63);
        int[] before = Busy.seen(x);
        for (int kind = 0; kind < 10; kind++) {
            SHEET.due("instruction(" + kind + ", 0), the 65th", x.instruction(kind, 0), -1);
        }
        SHEET.due("instruction(10, 0), the 65th", x.instruction(10, 0), -1);
        SHEET.due("answers after the 65th", Busy.seen(x), before);
        x.clear();
        SHEET.due("instruction(9, 0) after clear()", x.instruction(Code.HALT, 0), 0);
    }

    private static void clearedOfAll() {
        SHEET.sentence("3: No instructions");
        SecretLoom x = Busy.loom();
        x.clear();
        dueEmpty("cleared", x);
        Code.load(x, Code.jumps(63, Code.HALT, 0));
        SHEET.due("check() of 64", x.check(), 0);
        x.clear();
        dueEmpty("cleared of 64", x);
        // Nothing of an old program is there for a jump to come to.
        Code.load(x, Code.JUMP, 1);
        SHEET.due("check() of a jump to what is no more", x.check(), -1);
        for (int i = 1; i < 64; i++) {
            SHEET.due("instruction(9, 0) after clear()", x.instruction(Code.HALT, 0), i);
        }
        SHEET.due("instruction(9, 0), the 65th", x.instruction(Code.HALT, 0), -1);
    }

    private static void clearedOfNothing() {
        SHEET.sentence("3: No instructions");
        SecretLoom x = new SecretLoom();
        x.clear();
        dueEmpty("a new one, cleared", x);
        x.clear();
        x.clear();
        dueEmpty("cleared twice", x);
    }

    private static void levelsStay() {
        SHEET.sentence("3: levels, variables and arrays stay");
        SecretLoom x = Busy.loom();
        x.clear();
        SHEET.due("levels after clear()", Busy.levels(x), Busy.LEVELS);
    }

    private static void variablesAndArraysStay() {
        SHEET.sentence("3: levels, variables and arrays stay");
        SecretLoom x = Busy.loom();
        x.clear();
        for (int what = 0; what < 24; what++) {
            SHEET.due("memory(0, " + what + ") after clear()", x.memory(0, what), what + 1);
            SHEET.due("memory(1, " + what + ") after clear()", x.memory(1, what), what + 101);
        }
    }

    private static void eachLevelOfEach() {
        SHEET.sentence("4: A level of something, what 0: a variable, 1: an array, 2: a channel: true");
        int[] counts = {8, 2, 4};
        int first = 0;
        for (int what = 0; what < 3; what++) {
            for (int k = 0; k < counts[what]; k++) {
                for (int level = 0; level < 4; level++) {
                    SecretLoom x = new SecretLoom();
                    SHEET.due("level(" + what + ", " + k + ", " + level + ")", x.level(what, k, level), true);
                    int[] want = new int[14];
                    want[first + k] = level;
                    SHEET.due("levels after level(" + what + ", " + k + ", " + level + ")", Busy.levels(x), want);
                }
            }
            first += counts[what];
        }
    }

    private static void refusedLevel(int what, int k, int level) {
        Busy.refused(SHEET, "level(" + what + ", " + k + ", " + level + ")", 0, x -> x.level(what, k, level) ? 1 : 0);
    }

    private static void noSuchWhat() {
        SHEET.sentence("4: false if there is none such");
        for (int what : Code.outside(3)) {
            refusedLevel(what, 0, 3);
        }
    }

    private static void noSuchVariableArrayOrChannel() {
        SHEET.sentence("4: false if there is none such");
        for (int k : Code.outside(8)) {
            refusedLevel(0, k, 2);
        }
        for (int k : Code.outside(2)) {
            refusedLevel(1, k, 0);
        }
        for (int k : Code.outside(4)) {
            refusedLevel(2, k, 1);
            refusedLevel(2, k, 2);
        }
    }

    private static void noSuchLevel() {
        SHEET.sentence("4: false if there is none such");
        for (int level : Code.outside(4)) {
            refusedLevel(0, 0, level);
            refusedLevel(0, 7, level);
            refusedLevel(1, 1, level);
            refusedLevel(2, 3, level);
        }
    }
}
