/** Promises 6 and 7: surrounding and pile, the least levels. */
public final class TypesTest {
    private static final Sheet SHEET = new Sheet("TypesTest");

    public static void main(String[] args) {
        whatIsNotThere();
        whatIsPut();
        whatStays();
        ifzeroRaisesThePile();
        waysComeTogether();
        surroundingOfBranches();
        surroundingIsLoweredToo();
        surroundingOfLoops();
        surroundingWithoutHalt();
        surroundingWhereOneWayNeverHalts();
        surroundingGoesIntoWhatIsPut();
        regionsWithinRegions();
        levelsFromBehind();
        levelsThroughManyJumpsBack();
        levelsThatGoRoundSeveralTimes();
        SHEET.end();
    }

    private static void dueSurroundings(String name, SecretLoom x, int... want) {
        for (int place = 0; place < want.length; place++) {
            SHEET.due(name + ": surrounding(" + place + ")", x.surrounding(place), want[place]);
        }
    }

    private static void duePile(String name, SecretLoom x, int place, int... want) {
        for (int i = 0; i < want.length; i++) {
            SHEET.due(name + ": pile(" + place + ", " + i + ")", x.pile(place, i), want[i]);
        }
        SHEET.due(name + ": pile(" + place + ", " + want.length + ")", x.pile(place, want.length), -1);
    }

    private static void whatIsNotThere() {
        SecretLoom x = Code.loom(Code.PUSH, 1, Code.JUMP, 3, Code.HALT, 0, Code.HALT, 0);
        dueSurroundings("a place not met", x, 0, 0, -1, 0, -1);
        duePile("a place not met", x, 2);
        for (int bad : new int[] {Integer.MIN_VALUE, -64, -1, 4, 63, 64, 65, Integer.MAX_VALUE}) {
            SHEET.due("surrounding(" + bad + ")", x.surrounding(bad), -1);
            SHEET.due("pile(" + bad + ", 0)", x.pile(bad, 0), -1);
            SHEET.due("pile(1, " + bad + ")", x.pile(1, bad), -1);
        }
        duePile("before PUSH", x, 0);
        duePile("behind PUSH", x, 1, 0);
        x.instruction(Code.STORE, 0);
        dueSurroundings("one more, not met", x, 0, 0, -1, 0, -1);
        Code.load(x, Code.PUSH, 1, Code.JUMP, 0);
        dueSurroundings("not well formed", x, -1, -1);
        SHEET.due("pile(1, 0), not well formed", x.pile(1, 0), -1);
    }

    private static void whatIsPut() {
        SecretLoom x = Code.loom(Code.PUSH, 9, Code.LOAD, 0, Code.LOAD, 1, Code.DO, 2, Code.GET, 1, Code.DO, 0,
                Code.STORE, 3, Code.HALT, 0);
        x.level(Code.VARIABLE, 0, 1);
        x.level(Code.VARIABLE, 1, 2);
        duePile("PUSH", x, 1, 0);
        duePile("LOAD", x, 2, 0, 1);
        duePile("LOAD", x, 3, 0, 1, 2);
        duePile("DO", x, 4, 0, 3);
        duePile("GET by its index", x, 5, 0, 3);
        duePile("DO", x, 6, 3);
        duePile("STORE", x, 7);
        x.level(Code.VARIABLE, 0, 0);
        x.level(Code.VARIABLE, 1, 0);
        x.level(Code.ARRAY, 1, 2);
        duePile("DO", x, 4, 0, 0);
        duePile("GET by its array", x, 5, 0, 2);
        x.level(Code.VARIABLE, 0, 1);
        duePile("GET by both", x, 5, 0, 3);
        x.level(Code.ARRAY, 0, 3);
        x.level(Code.ARRAY, 1, 0);
        duePile("GET, the other array", x, 5, 0, 1);
    }

    private static void whatStays() {
        SecretLoom x = Code.loom(Code.LOAD, 0, Code.LOAD, 1, Code.PUSH, 0, Code.PUSH, 0, Code.PUSH, 0, Code.LAY, 0,
                Code.STORE, 0, Code.PUSH, 3, Code.OUT, 0, Code.JUMP, 10, Code.HALT, 0);
        x.level(Code.VARIABLE, 0, 3);
        x.level(Code.VARIABLE, 1, 2);
        duePile("before LAY", x, 5, 3, 2, 0, 0, 0);
        duePile("behind LAY", x, 6, 3, 2, 0);
        duePile("behind STORE", x, 7, 3, 2);
        duePile("behind PUSH", x, 8, 3, 2, 0);
        duePile("behind OUT", x, 9, 3, 2);
        duePile("behind JUMP", x, 10, 3, 2);
        SHEET.due("pile(10, -1)", x.pile(10, -1), -1);
    }

    private static void ifzeroRaisesThePile() {
        SecretLoom x = Code.loom(Code.PUSH, 0, Code.LOAD, 1, Code.LOAD, 0, Code.IFZERO, 6, Code.PUSH, 0, Code.OUT, 0,
                Code.HALT, 0);
        x.level(Code.VARIABLE, 0, 1);
        x.level(Code.VARIABLE, 1, 2);
        duePile("before IFZERO", x, 3, 0, 2, 1);
        duePile("its next one", x, 4, 1, 3);
        duePile("its other one", x, 6, 1, 3);
        SecretLoom y = new SecretLoom();
        for (int i = 0; i < 15; i++) {
            y.instruction(Code.PUSH, i);
        }
        y.instruction(Code.LOAD, 4);
        y.instruction(Code.IFZERO, 17);
        y.instruction(Code.HALT, 0);
        y.level(Code.VARIABLE, 4, 2);
        for (int i = 0; i < 15; i++) {
            SHEET.due("a high pile before", y.pile(16, i), 0);
            SHEET.due("a high pile behind", y.pile(17, i), 2);
        }
        SHEET.due("its top", y.pile(16, 15), 2);
        SHEET.due("behind its top", y.pile(17, 15), -1);
    }

    private static void waysComeTogether() {
        SecretLoom x = Code.loom(Code.PUSH, 0, Code.IFZERO, 4, Code.LOAD, 0, Code.JUMP, 5, Code.LOAD, 1,
                Code.OUT, 0, Code.HALT, 0);
        x.level(Code.VARIABLE, 0, 1);
        x.level(Code.VARIABLE, 1, 2);
        duePile("where ways come together", x, 5, 3);
        duePile("on one way", x, 3, 1);
    }

    private static void surroundingOfBranches() {
        SecretLoom x = Code.loom(Code.LOAD, 0, Code.IFZERO, 5, Code.PUSH, 1, Code.STORE, 1, Code.JUMP, 7,
                Code.PUSH, 2, Code.STORE, 1, Code.HALT, 0);
        dueSurroundings("all at 0", x, 0, 0, 0, 0, 0, 0, 0, 0);
        x.level(Code.VARIABLE, 0, 2);
        dueSurroundings("two branches", x, 0, 0, 2, 2, 2, 2, 2, 0);
        Code.load(x, Code.LOAD, 0, Code.IFZERO, 2, Code.HALT, 0);
        dueSurroundings("both followers one", x, 0, 0, 0);
        Code.load(x, Code.LOAD, 0, Code.IFZERO, 3, Code.HALT, 0, Code.HALT, 0);
        dueSurroundings("two HALTs", x, 0, 0, 2, 2);
    }

    private static void surroundingIsLoweredToo() {
        SecretLoom x = Code.loom(Code.LOAD, 0, Code.IFZERO, 4, Code.PUSH, 1, Code.STORE, 1, Code.HALT, 0);
        for (int level : new int[] {3, 0, 1, 2, 3, 1, 0}) {
            x.level(Code.VARIABLE, 0, level);
            dueSurroundings("level " + level, x, 0, 0, level, level, 0);
            duePile("level " + level, x, 3, level);
        }
        x.level(Code.VARIABLE, 0, 3);
        SHEET.due("check()", x.check(), 4);
        Code.load(x, Code.PUSH, 0, Code.IFZERO, 4, Code.PUSH, 1, Code.STORE, 1, Code.HALT, 0);
        dueSurroundings("another program", x, 0, 0, 0, 0, 0);
    }

    private static void surroundingOfLoops() {
        SecretLoom x = Code.loom(Code.PUSH, 5, Code.STORE, 0, Code.LOAD, 0, Code.IFZERO, 9, Code.LOAD, 0, Code.PUSH, 1,
                Code.DO, 1, Code.STORE, 0, Code.JUMP, 2, Code.HALT, 0);
        x.level(Code.VARIABLE, 0, 1);
        dueSurroundings("a loop", x, 0, 0, 1, 1, 1, 1, 1, 1, 1, 0);
        duePile("PUSH in a loop", x, 6, 1, 1);
    }

    private static void surroundingWithoutHalt() {
        SecretLoom x = Code.loom(Code.PUSH, 0, Code.STORE, 2, Code.LOAD, 0, Code.IFZERO, 5, Code.JUMP, 2,
                Code.PUSH, 1, Code.STORE, 1, Code.JUMP, 5);
        x.level(Code.VARIABLE, 0, 3);
        dueSurroundings("no HALT", x, 0, 0, 3, 3, 3, 3, 3, 3);
        Code.load(x, Code.LOAD, 0, Code.IFZERO, 3, Code.JUMP, 2, Code.JUMP, 3);
        dueSurroundings("no HALT, the IFZERO outside of its region", x, 0, 0, 3, 3);
    }

    private static void surroundingWhereOneWayNeverHalts() {
        SecretLoom x = Code.loom(Code.LOAD, 0, Code.IFZERO, 4, Code.PUSH, 1, Code.JUMP, 6, Code.JUMP, 4, Code.HALT, 0,
                Code.OUT, 0, Code.HALT, 0);
        x.level(Code.VARIABLE, 0, 1);
        SHEET.due("junction(1)", x.junction(1), 2);
        dueSurroundings("one way never halts", x, 0, 0, 0, 0, 1, -1, 0, 0);
        SHEET.due("check()", x.check(), 0);
    }

    private static void surroundingGoesIntoWhatIsPut() {
        SecretLoom x = Code.loom(Code.LOAD, 0, Code.IFZERO, 8, Code.PUSH, 1, Code.LOAD, 1, Code.DO, 0, Code.GET, 0,
                Code.JUMP, 7, Code.JUMP, 9, Code.PUSH, 1, Code.STORE, 2, Code.HALT, 0);
        x.level(Code.VARIABLE, 0, 1);
        x.level(Code.VARIABLE, 1, 2);
        duePile("PUSH", x, 3, 1);
        duePile("LOAD", x, 4, 1, 3);
        duePile("DO", x, 5, 3);
        duePile("what comes out of a region", x, 9, 3);
        SHEET.due("surrounding(9)", x.surrounding(9), 0);
        x.level(Code.VARIABLE, 1, 0);
        duePile("LOAD of a low one", x, 4, 1, 1);
        duePile("GET of a low one", x, 6, 1);
    }

    private static void regionsWithinRegions() {
        SecretLoom x = Code.loom(Code.LOAD, 0, Code.IFZERO, 8, Code.LOAD, 1, Code.IFZERO, 6, Code.PUSH, 1,
                Code.STORE, 2, Code.PUSH, 2, Code.STORE, 3, Code.HALT, 0);
        x.level(Code.VARIABLE, 0, 1);
        x.level(Code.VARIABLE, 1, 2);
        dueSurroundings("nested", x, 0, 0, 1, 1, 3, 3, 1, 1, 0);
        duePile("within", x, 5, 3);
        duePile("between", x, 7, 1);
    }

    private static void levelsFromBehind() {
        // The lowest int's level is found only by going round twice, by jumps that go back.
        SecretLoom x = Code.loom(Code.PUSH, 0, Code.JUMP, 8, Code.STORE, 5, Code.HALT, 0, Code.LOAD, 5, Code.LOAD, 7,
                Code.DO, 0, Code.JUMP, 8, Code.LOAD, 6, Code.IFZERO, 2, Code.STORE, 4, Code.JUMP, 4);
        x.level(Code.VARIABLE, 7, 2);
        duePile("from behind", x, 8, 2);
        duePile("from behind", x, 9, 2, 0);
        duePile("from behind", x, 2, 2);
        SHEET.due("check()", x.check(), 3);
        x.level(Code.VARIABLE, 7, 0);
        duePile("lowered again", x, 2, 0);
        SHEET.due("check()", x.check(), 0);
    }

    private static void levelsThroughManyJumpsBack() {
        SecretLoom x = new SecretLoom();
        x.instruction(Code.JUMP, 62);
        x.instruction(Code.OUT, 0);
        x.instruction(Code.HALT, 0);
        x.instruction(Code.JUMP, 1);
        for (int place = 4; place < 62; place++) {
            x.instruction(Code.JUMP, place - 1);
        }
        x.instruction(Code.LOAD, 0);
        x.instruction(Code.JUMP, 61);
        x.level(Code.VARIABLE, 0, 1);
        duePile("many jumps back", x, 1, 1);
        SHEET.due("check()", x.check(), 2);
        x.let(0, 0, 6);
        SHEET.due("run(0, 100)", x.run(0, 100), 64);
        SHEET.due("out(0, 0, 1)", x.out(0, 0, 1), 6);
    }

    /**
     * Of four ints on the pile the upmost has a level. Each of the three ways from 39 brings it one int
     * further down, and then leads back to 39 over a long row of jumps, from 38 to 1.
     */
    private static void levelsThatGoRoundSeveralTimes() {
        int[] code = Code.times(39, Code.JUMP, 0,
                Code.LOAD, 0, Code.IFZERO, 44, Code.DO, 0, Code.PUSH, 0, Code.JUMP, 38,
                Code.LOAD, 0, Code.IFZERO, 51, Code.STORE, 0, Code.DO, 0, Code.PUSH, 0, Code.PUSH, 0, Code.JUMP, 38,
                Code.STORE, 0, Code.STORE, 0, Code.DO, 0, Code.PUSH, 0, Code.PUSH, 0, Code.PUSH, 0, Code.JUMP, 38,
                Code.PUSH, 0, Code.PUSH, 0, Code.PUSH, 0, Code.LOAD, 1, Code.JUMP, 38);
        code[1] = 58;
        code[3] = 39;
        for (int place = 2; place < 39; place++) {
            code[2 * place + 1] = place - 1;
        }
        SecretLoom x = Code.loom(code);
        duePile("all at 0", x, 39, 0, 0, 0, 0);
        x.level(Code.VARIABLE, 1, 3);
        duePile("round three times", x, 39, 3, 3, 3, 3);
        duePile("on the last way", x, 58);
        SHEET.due("check()", x.check(), 47);
    }
}
