import java.util.Arrays;

/** Promises 5 to 8, and the terms of theirs: each sentence that names a boundary. */
public final class CheckEdgeTest {
    private static final Sheet SHEET = new Sheet("CheckEdgeTest");
    private static final int[] NOT_WELL_FORMED = {Code.LOAD, 0, Code.IFZERO, 3, Code.HALT, 0, Code.PUSH, 0};
    private static final int[] NO_PLACES = {Integer.MIN_VALUE, -65, -64, -63, -1, 64, 65, 66, 128, 256, 1 << 16,
        Integer.MAX_VALUE};

    public static void main(String[] args) {
        zeroIfAllIsSafe();
        noneIfNotWellFormed();
        theFirstThatIsNotSafe();
        theFirstThatIsMet();
        surroundingOfEach();
        surroundingOfWhatIsNotMet();
        surroundingOfNoPlace();
        surroundingNotWellFormed();
        surroundingOfTheFull();
        pileFromTheLowestOn();
        pileOfSixteen();
        pileOfWhatIsNotThere();
        pileOfWhatIsNotMet();
        pileNotWellFormed();
        junctionOfEach();
        junctionOtherThanItself();
        junctionAtTheFirstPlace();
        junctionIsTheNearest();
        behindTheHalt();
        noHaltCanBeComeTo();
        junctionOfNoneSuch();
        junctionNotWellFormed();
        regionWithoutItsJunction();
        regionIfNoHalt();
        regionsOfTheFull();
        regionsOfSeveral();
        regionsOfAnotherProgram();
        levelsFoundLate();
        SHEET.end();
    }

    private static void dueSurroundings(String name, SecretLoom x, int... want) {
        int[] got = new int[want.length];
        for (int place = 0; place < want.length; place++) {
            got[place] = x.surrounding(place);
        }
        SHEET.due("surroundings of " + name, got, want);
    }

    private static void dueJunction(int want, int place, int... code) {
        SHEET.due("junction(" + place + ") of " + Arrays.toString(code), Code.loom(code).junction(place), want);
    }

    private static SecretLoom withSecret(int level, int... code) {
        SecretLoom x = Code.loom(code);
        x.level(Code.VARIABLE, 0, level);
        return x;
    }

    private static void zeroIfAllIsSafe() {
        SHEET.sentence("5: 0 if the program is well formed and all instructions that are met are safe");
        SHEET.due("check() of a HALT", Code.loom(Code.HALT, 0).check(), 0);
        int[] full = Code.jumps(61, Code.LOAD, 0, Code.OUT, 0, Code.HALT, 0);
        SHEET.due("check() of 64", withSecret(0, full).check(), 0);
        SecretLoom x = withSecret(3, full);
        x.level(Code.CHANNEL, 0, 3);
        SHEET.due("check() of 64 on a channel of level 3", x.check(), 0);
    }

    private static void noneIfNotWellFormed() {
        SHEET.sentence("5: NONE if it is not well formed");
        SHEET.due("check() of nothing", new SecretLoom().check(), -1);
        SHEET.due("check()", Code.loom(NOT_WELL_FORMED).check(), -1);
        // Not safe either: that it is not well formed comes first.
        SHEET.due("check(), not safe too", withSecret(1, Code.LOAD, 0, Code.OUT, 0, Code.PUSH, 0).check(), -1);
        SecretLoom x = withSecret(1, Code.LOAD, 0, Code.OUT, 0);
        SHEET.due("check() without its HALT", x.check(), -1);
        x.instruction(Code.HALT, 0);
        SHEET.due("check() with its HALT", x.check(), 2);
        // What was not yet looked at, when the first turned out to be wrong, is not met in the next.
        Code.load(x, Code.PUSH, 0, Code.IFZERO, 4, Code.STORE, 0, Code.HALT, 0, Code.HALT, 0);
        SHEET.due("check() of a wrong one", x.check(), -1);
        Code.load(x, Code.HALT, 0, Code.HALT, 0, Code.HALT, 0, Code.HALT, 0, Code.STORE, 0);
        SHEET.due("check() of a right one after it", x.check(), 0);
    }

    private static void theFirstThatIsNotSafe() {
        SHEET.sentence("5: Else the place, from 1 on, of the first that is met and not safe");
        SecretLoom x = withSecret(1, Code.LOAD, 0, Code.OUT, 0, Code.HALT, 0);
        SHEET.due("check(), the earliest that there can be", x.check(), 2);
        x = withSecret(1, Code.jumps(61, Code.LOAD, 0, Code.OUT, 0, Code.HALT, 0));
        SHEET.due("check(), the latest that there can be", x.check(), 63);
        x = withSecret(2, Code.LOAD, 0, Code.STORE, 1, Code.LOAD, 0, Code.OUT, 1, Code.LOAD, 0, Code.PUSH, 0,
                Code.LAY, 1, Code.HALT, 0);
        SHEET.due("check() of three", x.check(), 2);
        x.level(Code.VARIABLE, 1, 2);
        SHEET.due("check() of two", x.check(), 4);
        x.level(Code.CHANNEL, 1, 3);
        SHEET.due("check() of one", x.check(), 7);
        x.level(Code.ARRAY, 1, 2);
        SHEET.due("check() of none", x.check(), 0);
    }

    private static void theFirstThatIsMet() {
        SHEET.sentence("5: Else the place, from 1 on, of the first that is met and not safe");
        int[] notMetFirst = {Code.JUMP, 3, Code.LOAD, 0, Code.OUT, 0, Code.LOAD, 0, Code.OUT, 0, Code.HALT, 0};
        SHEET.due("check(), one before it not met", withSecret(1, notMetFirst).check(), 5);
        int[] notMetAlone = {Code.JUMP, 3, Code.LOAD, 0, Code.OUT, 0, Code.HALT, 0};
        SHEET.due("check(), one not met alone", withSecret(1, notMetAlone).check(), 0);
        int[] laterPlaceFirst = {Code.JUMP, 4, Code.LOAD, 0, Code.OUT, 0, Code.HALT, 0, Code.LOAD, 0, Code.OUT, 0,
            Code.JUMP, 1};
        SHEET.due("check(), first by place", withSecret(1, laterPlaceFirst).check(), 3);
    }

    private static void surroundingOfEach() {
        SHEET.sentence("6: The surrounding of an instruction");
        for (int level = 0; level < 4; level++) {
            SecretLoom x = withSecret(level, Code.LOAD, 0, Code.IFZERO, 3, Code.JUMP, 3, Code.HALT, 0);
            dueSurroundings("level " + level, x, 0, 0, level, 0, -1);
        }
    }

    private static void surroundingOfWhatIsNotMet() {
        SHEET.sentence("6: NONE if it is not met");
        SecretLoom x = withSecret(3, Code.LOAD, 0, Code.IFZERO, 5, Code.JUMP, 5, Code.PUSH, 0, Code.HALT, 0,
                Code.HALT, 0, Code.HALT, 0);
        dueSurroundings("some not met", x, 0, 0, 3, -1, -1, 0, -1);
    }

    private static void surroundingOfNoPlace() {
        SHEET.sentence("6: there is none such");
        for (int size = 1; size <= 64; size += 9) {
            SecretLoom x = Code.loom(Code.jumps(size - 1, Code.HALT, 0));
            SHEET.due("surrounding(0) of " + size, x.surrounding(0), 0);
            SHEET.due("surrounding of the last of " + size, x.surrounding(size - 1), 0);
            SHEET.due("surrounding behind the last of " + size, x.surrounding(size), -1);
            for (int bad : NO_PLACES) {
                SHEET.due("surrounding(" + bad + ") of " + size, x.surrounding(bad), -1);
            }
        }
    }

    private static void surroundingNotWellFormed() {
        SHEET.sentence("6: or the program is not well formed");
        dueSurroundings("nothing", new SecretLoom(), -1, -1);
        dueSurroundings("one not well formed", Code.loom(NOT_WELL_FORMED), -1, -1, -1, -1, -1);
        SecretLoom x = Code.loom(Code.HALT, 0);
        dueSurroundings("a HALT", x, 0, -1);
        Code.load(x, NOT_WELL_FORMED);
        dueSurroundings("one not well formed after one that was", x, -1, -1, -1, -1, -1);
    }

    private static void surroundingOfTheFull() {
        SHEET.sentence("6: The surrounding of an instruction");
        int[] full = Code.join(new int[] {Code.LOAD, 0, Code.IFZERO, 63}, Code.times(61, Code.PUSH, 0));
        for (int place = 2; place < 63; place++) {
            full[2 * place] = Code.JUMP;
            full[2 * place + 1] = place + 1;
        }
        full[2 * 62] = Code.HALT;
        SecretLoom x = withSecret(2, Code.join(full, Code.HALT, 0));
        SHEET.due("surrounding(1)", x.surrounding(1), 0);
        for (int place = 2; place < 64; place++) {
            SHEET.due("surrounding(" + place + ")", x.surrounding(place), 2);
        }
        SHEET.due("surrounding(64)", x.surrounding(64), -1);
    }

    private static void pileFromTheLowestOn() {
        SHEET.sentence("7: The level of an int on the pile before an instruction, i from 0 (the lowest one) on");
        SecretLoom x = Code.loom(Code.LOAD, 1, Code.LOAD, 2, Code.LOAD, 3, Code.HALT, 0);
        for (int k = 1; k < 4; k++) {
            x.level(Code.VARIABLE, k, k);
        }
        for (int place = 0; place < 4; place++) {
            for (int i = 0; i < 4; i++) {
                SHEET.due("pile(" + place + ", " + i + ")", x.pile(place, i), i < place ? i + 1 : -1);
            }
        }
    }

    private static void pileOfSixteen() {
        SHEET.sentence("7: i from 0 (the lowest one) on");
        int[] code = new int[128];
        for (int place = 0; place < 64; place++) {
            code[2 * place] = place < 16 ? Code.LOAD : place < 63 ? Code.JUMP : Code.HALT;
            code[2 * place + 1] = place < 16 ? place % 8 : place < 63 ? place + 1 : 0;
        }
        SecretLoom x = Code.loom(code);
        for (int k = 0; k < 8; k++) {
            x.level(Code.VARIABLE, k, 3 - k % 4);
        }
        for (int place : new int[] {16, 63}) {
            for (int i = 0; i < 16; i++) {
                SHEET.due("pile(" + place + ", " + i + ")", x.pile(place, i), 3 - i % 4);
            }
            SHEET.due("pile(" + place + ", 16)", x.pile(place, 16), -1);
        }
        SHEET.due("pile(15, 14)", x.pile(15, 14), 1);
        SHEET.due("pile(15, 15)", x.pile(15, 15), -1);
        SHEET.due("pile(64, 0)", x.pile(64, 0), -1);
    }

    private static void pileOfWhatIsNotThere() {
        SHEET.sentence("7: NONE if there is none");
        SecretLoom x = Code.loom(Code.PUSH, 0, Code.PUSH, 0, Code.STORE, 0, Code.HALT, 0);
        int[] there = {0, 1, 2, 1};
        for (int place = 0; place < 4; place++) {
            for (int i = 0; i < 4; i++) {
                SHEET.due("pile(" + place + ", " + i + ")", x.pile(place, i), i < there[place] ? 0 : -1);
            }
            for (int bad : Code.outside(16)) {
                SHEET.due("pile(" + place + ", " + bad + ")", x.pile(place, bad), -1);
            }
        }
        SHEET.due("pile(4, 0), behind the last", x.pile(4, 0), -1);
        for (int bad : NO_PLACES) {
            SHEET.due("pile(" + bad + ", 0)", x.pile(bad, 0), -1);
        }
    }

    private static void pileOfWhatIsNotMet() {
        SHEET.sentence("7: it is not met");
        SecretLoom x = Code.loom(Code.PUSH, 0, Code.JUMP, 4, Code.PUSH, 0, Code.HALT, 0, Code.HALT, 0, Code.HALT, 0);
        int[] want = {-1, 0, -1, -1, 0, -1};
        for (int place = 0; place < 6; place++) {
            SHEET.due("pile(" + place + ", 0)", x.pile(place, 0), want[place]);
        }
        // Met once, with something on the pile, in a program that is no more.
        Code.load(x, Code.PUSH, 0, Code.PUSH, 0, Code.PUSH, 0, Code.HALT, 0);
        SHEET.due("pile(3, 0), met", x.pile(3, 0), 0);
        Code.load(x, Code.PUSH, 0, Code.HALT, 0, Code.PUSH, 0, Code.HALT, 0);
        SHEET.due("pile(3, 0), no more met", x.pile(3, 0), -1);
    }

    private static void pileNotWellFormed() {
        SHEET.sentence("7: or the program is not well formed");
        SHEET.due("pile(0, 0) of nothing", new SecretLoom().pile(0, 0), -1);
        SecretLoom x = Code.loom(Code.LOAD, 0, Code.HALT, 0);
        SHEET.due("pile(1, 0)", x.pile(1, 0), 0);
        Code.load(x, NOT_WELL_FORMED);
        for (int place = 0; place < 4; place++) {
            SHEET.due("pile(" + place + ", 0), not well formed", x.pile(place, 0), -1);
        }
    }

    private static void junctionOfEach() {
        SHEET.sentence("8: The junction of an IFZERO that is met");
        dueJunction(3, 1, Code.LOAD, 0, Code.IFZERO, 3, Code.JUMP, 3, Code.HALT, 0);
        dueJunction(2, 1, Code.LOAD, 0, Code.IFZERO, 2, Code.HALT, 0);
        dueJunction(63, 1, Code.join(new int[] {Code.LOAD, 0, Code.IFZERO, 63},
                Code.times(61, Code.JUMP, 63, Code.HALT, 0)));
        int[] full = Code.jumps(60, Code.LOAD, 0, Code.IFZERO, 62, Code.JUMP, 63, Code.HALT, 0);
        dueJunction(62, 61, full);
        // All 64 lead to the one HALT, and 62 is come to by a jump alone.
        int[] head = {Code.PUSH, 0, Code.LOAD, 0, Code.IFZERO, 62, Code.STORE, 0};
        int[] chain = Code.jumps(62, Code.IFZERO, 4, Code.HALT, 0);
        System.arraycopy(head, 0, chain, 0, head.length);
        chain[2 * 61 + 1] = 63;
        dueJunction(63, 62, chain);
        dueJunction(63, 2, chain);
    }

    private static void junctionOtherThanItself() {
        SHEET.sentence("the nearest instruction, other than itself, that is on every way from it to a HALT");
        dueJunction(2, 1, Code.LOAD, 0, Code.IFZERO, 0, Code.HALT, 0);
        dueJunction(3, 1, Code.LOAD, 0, Code.IFZERO, 3, Code.JUMP, 0, Code.HALT, 0);
        // Some ways go over 1 itself again, all over 4.
        dueJunction(4, 1, Code.LOAD, 0, Code.IFZERO, 4, Code.LOAD, 1, Code.IFZERO, 0, Code.JUMP, 5, Code.HALT, 0);
    }

    private static void junctionAtTheFirstPlace() {
        SHEET.sentence("the nearest instruction, other than itself, that is on every way from it to a HALT");
        int[] code = {Code.LOAD, 0, Code.IFZERO, 3, Code.HALT, 0, Code.LOAD, 1, Code.IFZERO, 0, Code.JUMP, 0};
        dueJunction(0, 4, code);
        dueJunction(2, 1, code);
    }

    private static void junctionIsTheNearest() {
        SHEET.sentence("Nearest: every other such one is on all ways from it to there");
        dueJunction(3, 1, Code.LOAD, 0, Code.IFZERO, 3, Code.JUMP, 3, Code.JUMP, 4, Code.JUMP, 5, Code.HALT, 0);
        // The ways go from the later places to the earlier ones.
        dueJunction(5, 7, Code.JUMP, 6, Code.HALT, 0, Code.JUMP, 1, Code.JUMP, 2, Code.JUMP, 3, Code.JUMP, 4,
                Code.LOAD, 0, Code.IFZERO, 5, Code.JUMP, 5);
    }

    private static void behindTheHalt() {
        SHEET.sentence("8: the number of instructions, if it is \"behind the HALT\"");
        int[] twoHalts = {Code.LOAD, 0, Code.IFZERO, 3, Code.HALT, 0, Code.HALT, 0};
        dueJunction(4, 1, twoHalts);
        dueJunction(5, 1, Code.join(twoHalts, Code.HALT, 0));
        dueJunction(63, 1, Code.join(twoHalts, Code.times(59, Code.PUSH, 0)));
        dueJunction(64, 1, Code.join(twoHalts, Code.times(60, Code.PUSH, 0)));
        // One HALT for both ways is itself on every way.
        dueJunction(3, 1, Code.LOAD, 0, Code.IFZERO, 3, Code.JUMP, 3, Code.HALT, 0, Code.HALT, 0);
        SecretLoom x = Code.loom(twoHalts);
        SHEET.due("junction(1) of 4", x.junction(1), 4);
        x.instruction(Code.HALT, 0);
        SHEET.due("junction(1) of 5", x.junction(1), 5);
    }

    private static void noHaltCanBeComeTo() {
        SHEET.sentence("8: NONE if no HALT can be come to");
        dueJunction(-1, 1, Code.LOAD, 0, Code.IFZERO, 0, Code.JUMP, 0);
        dueJunction(-1, 1, Code.LOAD, 0, Code.IFZERO, 0, Code.JUMP, 0, Code.HALT, 0);
        int[] halfWay = {Code.LOAD, 0, Code.IFZERO, 3, Code.HALT, 0, Code.LOAD, 0, Code.IFZERO, 3, Code.JUMP, 3};
        dueJunction(-1, 4, halfWay);
        // From the first one a HALT can be come to, on one way alone.
        dueJunction(2, 1, halfWay);
    }

    private static void junctionOfNoneSuch() {
        SHEET.sentence("8: it is none such");
        int[] numbers = {0, 0, 0, 0, 3, 3, 0, 0, 0, 0};
        for (int kind = 0; kind < 10; kind++) {
            int[] code = {Code.PUSH, 0, Code.PUSH, 0, kind, numbers[kind], Code.HALT, 0, kind, numbers[kind]};
            dueJunction(kind == Code.IFZERO ? 3 : -1, 2, code);
            // The same one, not met.
            dueJunction(-1, 4, code);
        }
        SecretLoom x = Code.loom(Code.LOAD, 0, Code.IFZERO, 2, Code.HALT, 0);
        SHEET.due("junction(1)", x.junction(1), 2);
        SHEET.due("junction(3), behind the last", x.junction(3), -1);
        for (int bad : NO_PLACES) {
            SHEET.due("junction(" + bad + ")", x.junction(bad), -1);
        }
    }

    private static void junctionNotWellFormed() {
        SHEET.sentence("8: or the program is not well formed");
        SHEET.due("junction(0) of nothing", new SecretLoom().junction(0), -1);
        SecretLoom x = Code.loom(Code.LOAD, 0, Code.IFZERO, 3, Code.HALT, 0, Code.HALT, 0);
        SHEET.due("junction(1)", x.junction(1), 4);
        Code.load(x, NOT_WELL_FORMED);
        SHEET.due("junction(1), not well formed", x.junction(1), -1);
        x.instruction(Code.HALT, 0);
        SHEET.due("junction(1), well formed by a HALT more", x.junction(1), 5);
    }

    private static void regionWithoutItsJunction() {
        SHEET.sentence("without coming to its junction, which is not one of them");
        dueSurroundings("no region", withSecret(3, Code.LOAD, 0, Code.IFZERO, 2, Code.HALT, 0), 0, 0, 0);
        dueSurroundings("one way, and behind the junction",
                withSecret(3, Code.LOAD, 0, Code.IFZERO, 3, Code.JUMP, 3, Code.JUMP, 4, Code.HALT, 0), 0, 0, 3, 0, 0);
        dueSurroundings("up to behind the HALT",
                withSecret(3, Code.LOAD, 0, Code.IFZERO, 3, Code.HALT, 0, Code.HALT, 0), 0, 0, 3, 3);
        dueSurroundings("a way without an end",
                withSecret(3, Code.LOAD, 0, Code.IFZERO, 3, Code.HALT, 0, Code.JUMP, 3), 0, 0, 0, 3);
        dueSurroundings("the first place alone", withSecret(3, Code.JUMP, 4, Code.HALT, 0, Code.HALT, 0, Code.IFZERO, 0,
                Code.LOAD, 1, Code.IFZERO, 7, Code.HALT, 0, Code.LOAD, 0, Code.JUMP, 3), 3, -1, -1, 0, 0, 0, 0, 0, 0);
        // Round to itself: it is in its own region.
        dueSurroundings("a loop", withSecret(3, Code.JUMP, 1, Code.LOAD, 0, Code.IFZERO, 1, Code.HALT, 0), 0, 3, 3, 0);
    }

    private static void regionIfNoHalt() {
        SHEET.sentence("all of them, if from it no HALT can be come to");
        dueSurroundings("two ways without an end",
                withSecret(1, Code.LOAD, 0, Code.IFZERO, 3, Code.JUMP, 2, Code.JUMP, 3), 0, 0, 1, 1);
        dueSurroundings("one way without an end",
                withSecret(2, Code.LOAD, 0, Code.IFZERO, 2, Code.JUMP, 3, Code.JUMP, 2), 0, 0, 2, 2);
        dueSurroundings("round to itself",
                withSecret(3, Code.JUMP, 1, Code.LOAD, 0, Code.IFZERO, 1, Code.JUMP, 1, Code.HALT, 0), 0, 3, 3, 3, -1);
    }

    private static void regionsOfTheFull() {
        SHEET.sentence("\"behind the HALT\" counts as an instruction that all HALTs lead to");
        // Two HALTs, at 62 and 63, and a way back to 0: all 64 are the region of 1.
        int[] code = Code.jumps(62, Code.HALT, 0, Code.HALT, 0);
        int[] back = {Code.LOAD, 0, Code.IFZERO, 63, Code.LOAD, 1, Code.IFZERO, 0};
        System.arraycopy(back, 0, code, 0, back.length);
        SecretLoom x = withSecret(2, code);
        SHEET.due("junction(1)", x.junction(1), 64);
        for (int place = 0; place < 64; place++) {
            SHEET.due("surrounding(" + place + ")", x.surrounding(place), 2);
        }
        // No HALT, and the last place is where one way ends.
        int[] on = {Code.LOAD, 0, Code.IFZERO, 63, Code.JUMP, 2};
        x = withSecret(1, Code.join(on, Code.times(61, Code.JUMP, 63)));
        SHEET.due("junction(1) without a HALT", x.junction(1), -1);
        SHEET.due("surrounding(0) without a HALT", x.surrounding(0), 0);
        SHEET.due("surrounding(2) without a HALT", x.surrounding(2), 1);
        SHEET.due("surrounding(63) without a HALT", x.surrounding(63), 1);
    }

    private static void regionsOfSeveral() {
        SHEET.sentence("the level of what it takes is below the surrounding of all instructions of its region");
        int[] code = {Code.LOAD, 0, Code.IFZERO, 3, Code.JUMP, 3, Code.LOAD, 1, Code.IFZERO, 6, Code.JUMP, 6,
            Code.LOAD, 2, Code.IFZERO, 9, Code.JUMP, 9, Code.HALT, 0};
        for (int level = 0; level < 4; level++) {
            SecretLoom x = Code.loom(code);
            x.level(Code.VARIABLE, 0, level);
            x.level(Code.VARIABLE, 1, 3 - level);
            x.level(Code.VARIABLE, 2, level);
            dueSurroundings("one behind another", x, 0, 0, level, 0, 0, 3 - level, 0, 0, level, 0);
        }
        int[] within = {Code.LOAD, 0, Code.IFZERO, 6, Code.LOAD, 1, Code.IFZERO, 5, Code.JUMP, 5, Code.JUMP, 6,
            Code.HALT, 0};
        for (int level = 0; level < 4; level++) {
            SecretLoom x = Code.loom(within);
            x.level(Code.VARIABLE, 0, 1);
            x.level(Code.VARIABLE, 1, level);
            // What is loaded within has the surrounding of the outer one too.
            dueSurroundings("one within another", x, 0, 0, 1, 1, level | 1, 1, 0);
        }
    }

    private static void regionsOfAnotherProgram() {
        SHEET.sentence("The REGION of an IFZERO are the instructions that can be come to from its followers");
        SecretLoom x = withSecret(3, Code.LOAD, 0, Code.IFZERO, 4, Code.JUMP, 5, Code.HALT, 0, Code.JUMP, 5,
                Code.HALT, 0);
        dueSurroundings("the first", x, 0, 0, 3, -1, 3, 0);
        Code.load(x, Code.LOAD, 0, Code.IFZERO, 3, Code.JUMP, 3, Code.JUMP, 4, Code.JUMP, 5, Code.HALT, 0);
        dueSurroundings("the second", x, 0, 0, 3, 0, 0, 0);
        Code.load(x, Code.LOAD, 1, Code.IFZERO, 3, Code.JUMP, 3, Code.HALT, 0);
        dueSurroundings("the third", x, 0, 0, 0, 0);
    }

    private static void levelsFoundLate() {
        SHEET.sentence("PUSH puts its surrounding");
        // The level comes to 4 by a jump back, and from there to what stands before it.
        SecretLoom x = withSecret(1, Code.JUMP, 6, Code.PUSH, 7, Code.STORE, 1, Code.HALT, 0, Code.IFZERO, 1,
                Code.JUMP, 3, Code.LOAD, 0, Code.JUMP, 4);
        SHEET.due("junction(4)", x.junction(4), 3);
        dueSurroundings("a region before its IFZERO", x, 0, 1, 1, 0, 0, 1, 0, 0);
        SHEET.due("pile(2, 0)", x.pile(2, 0), 1);
        SHEET.due("check()", x.check(), 3);
    }
}
