import java.util.function.ToIntFunction;

/** The boundaries that the document's terms name, each by its own words. */
public final class TermsEdgeTest {
    private static final Sheet SHEET = new Sheet("TermsEdgeTest");
    private static final int[] ANY_LAST = {Code.PUSH, Code.LOAD, Code.STORE, Code.DO, Code.GET, Code.LAY, Code.OUT};

    public static void main(String[] args) {
        fiveHundredAndTwelveCalls();
        eachCallUpToTheLast();
        belowAnother();
        twoTogether();
        zeroAtFirst();
        sixtyFourInstructions();
        wrapAround();
        lessAndEqual();
        bitByBit();
        ifItIsZero();
        getModuloEight();
        layModuloEight();
        followersOfTheKinds();
        allThatComesNextIsThere();
        jumpsToWhatIsThere();
        hasWhatIsTaken();
        hasWhatIsTakenOnEachWay();
        neverMoreThanSixteen();
        sixteenCanBeUsed();
        asManyWhateverWay();
        onlyWhatIsMet();
        whatStaysOnThePile();
        whatIsTakenIsGone();
        ifzeroLeavesEachInt();
        SHEET.end();
    }

    private static void dueCheck(String name, int want, int... code) {
        SHEET.due("check() of " + name, Code.loom(code).check(), want);
    }

    private static void fiveHundredAndTwelveCalls() {
        SHEET.sentence("An object is used for at most 512 calls after it has been made");
        SecretLoom x = Busy.loom();
        for (int calls = 72; calls < 509; calls++) {
            x.run(calls % 2, 50);
        }
        SHEET.due("the 510th call, level(0, 0, 2)", x.level(Code.VARIABLE, 0, 2), true);
        SHEET.due("the 511th call, check()", x.check(), 4);
        SHEET.due("the 512th call, run(0, 50)", x.run(0, 50), Busy.SIZE);
    }

    private static void eachCallUpToTheLast() {
        SHEET.sentence("An object is used for at most 512 calls after it has been made");
        upToTheLast("check()", 0, x -> x.check());
        upToTheLast("surrounding(2)", 1, x -> x.surrounding(2));
        upToTheLast("pile(1, 0)", 1, x -> x.pile(1, 0));
        upToTheLast("junction(1)", 4, x -> x.junction(1));
        upToTheLast("level(2, 1, 0)", 1, x -> x.level(Code.CHANNEL, 1, 0) ? 1 : 0);
        upToTheLast("let(0, 0, 7)", 1, x -> x.let(0, 0, 7) ? 1 : 0);
        upToTheLast("lay(1, 1, 7, 7)", 1, x -> x.lay(1, 1, 7, 7) ? 1 : 0);
        upToTheLast("run(0, 50)", Busy.SIZE, x -> x.run(0, 50));
        upToTheLast("run(1, 0)", 0, x -> x.run(1, 0));
        upToTheLast("ran(0, 1)", 2, x -> x.ran(0, 1));
        upToTheLast("out(0, 0, 1)", 5, x -> x.out(0, 0, 1));
        upToTheLast("same(0)", 0, x -> x.same(0));
        upToTheLast("memory(1, 23)", 124, x -> x.memory(1, 23));
        SecretLoom x = new SecretLoom();
        for (int calls = 0; calls < 512; calls++) {
            if (calls % 65 == 64) {
                x.clear();
            } else {
                SHEET.due("instruction(9, 0), call " + (calls + 1), x.instruction(Code.HALT, 0), calls % 65);
            }
        }
    }

    private static void upToTheLast(String call, int want, ToIntFunction<SecretLoom> made) {
        SecretLoom x = Busy.loom();
        for (int calls = 72; calls < 512; calls++) {
            SHEET.due(call + ", call " + (calls + 1), made.applyAsInt(x), want);
        }
    }

    private static void belowAnother() {
        SHEET.sentence("a level is BELOW another one if all its bits are in that");
        int[][] above = {{0, 1, 2, 3}, {1, 3}, {2, 3}, {3}};
        for (int level = 0; level < 4; level++) {
            for (int other = 0; other < 4; other++) {
                SecretLoom x = Code.loom(Code.LOAD, 0, Code.OUT, 0, Code.HALT, 0);
                x.level(Code.VARIABLE, 0, level);
                x.level(Code.CHANNEL, 0, other);
                boolean below = false;
                for (int one : above[level]) {
                    below |= one == other;
                }
                SHEET.due("check() of " + level + " on " + other, x.check(), below ? 0 : 2);
            }
        }
    }

    private static void twoTogether() {
        SHEET.sentence("two together make the level with the bits of both");
        int[][] want = {{0, 1, 2, 3}, {1, 1, 3, 3}, {2, 3, 2, 3}, {3, 3, 3, 3}};
        SecretLoom x = Code.loom(Code.LOAD, 0, Code.LOAD, 1, Code.DO, 0, Code.HALT, 0);
        for (int a = 0; a < 4; a++) {
            for (int b = 0; b < 4; b++) {
                x.level(Code.VARIABLE, 0, a);
                x.level(Code.VARIABLE, 1, b);
                SHEET.due("pile(3, 0) of " + a + " and " + b, x.pile(3, 0), want[a][b]);
            }
        }
    }

    private static void zeroAtFirst() {
        SHEET.sentence("each have a level, 0 at first; variables and array's ints are 0");
        SHEET.due("levels at first", Busy.levels(new SecretLoom()), new int[14]);
        SecretLoom x = new SecretLoom();
        for (int what = 0; what < 24; what++) {
            SHEET.due("memory(0, " + what + ")", x.memory(0, what), 0);
            SHEET.due("memory(1, " + what + ")", x.memory(1, what), 0);
        }
    }

    private static void sixtyFourInstructions() {
        SHEET.sentence("A PROGRAM has at most 64 INSTRUCTIONS");
        SecretLoom x = Code.loom(Code.jumps(63));
        SHEET.due("check() of 63, the 64th not there", x.check(), -1);
        SHEET.due("instruction(9, 0), the 64th", x.instruction(Code.HALT, 0), 63);
        SHEET.due("instruction(9, 0), the 65th", x.instruction(Code.HALT, 0), -1);
        SHEET.due("check() of 64", x.check(), 0);
        SHEET.due("run(0, 100) of 64", x.run(0, 100), 64);
        // There is never a 65th to come next.
        dueCheck("64, the last of them no HALT", -1, Code.jumps(63, Code.PUSH, 0));
    }

    private static int result(int k, int a, int b) {
        SecretLoom x = Code.loom(Code.PUSH, a, Code.PUSH, b, Code.DO, k, Code.OUT, 0, Code.HALT, 0);
        x.run(0, 10);
        return x.out(0, 0, 1);
    }

    private static void wrapAround() {
        SHEET.sentence("put is, by k, 0 a + b, 1 a - b, 2 a * b");
        int least = Integer.MIN_VALUE;
        int most = Integer.MAX_VALUE;
        SHEET.due("most + 0", result(0, most, 0), most);
        SHEET.due("most + 1", result(0, most, 1), least);
        SHEET.due("least + -1", result(0, least, -1), most);
        SHEET.due("least - 1", result(1, least, 1), most);
        SHEET.due("most - -1", result(1, most, -1), least);
        SHEET.due("0 - least", result(1, 0, least), least);
        SHEET.due("least * -1", result(2, least, -1), least);
        SHEET.due("65536 * 32767", result(2, 65_536, 32_767), 2_147_418_112);
        SHEET.due("65536 * 32768", result(2, 65_536, 32_768), least);
        SHEET.due("65536 * 65536", result(2, 65_536, 65_536), 0);
        SHEET.due("most * most", result(2, most, most), 1);
    }

    private static void lessAndEqual() {
        SHEET.sentence("3 whether a < b (1, else 0), 4 whether they are equal");
        int least = Integer.MIN_VALUE;
        int most = Integer.MAX_VALUE;
        int[][] pairs = {{4, 5}, {5, 5}, {6, 5}, {-1, 0}, {0, -1}, {least, most}, {most, least}, {least, least}};
        int[] less = {1, 0, 0, 1, 0, 1, 0, 0};
        int[] equal = {0, 1, 0, 0, 0, 0, 0, 1};
        for (int i = 0; i < pairs.length; i++) {
            String name = pairs[i][0] + " and " + pairs[i][1];
            SHEET.due("less of " + name, result(3, pairs[i][0], pairs[i][1]), less[i]);
            SHEET.due("equal of " + name, result(4, pairs[i][0], pairs[i][1]), equal[i]);
        }
    }

    private static void bitByBit() {
        SHEET.sentence("5 a and b bit by bit, 6 a or b");
        SHEET.due("12 and 10", result(5, 12, 10), 8);
        SHEET.due("12 or 10", result(6, 12, 10), 14);
        SHEET.due("-1 and least", result(5, -1, Integer.MIN_VALUE), Integer.MIN_VALUE);
        SHEET.due("most or least", result(6, Integer.MAX_VALUE, Integer.MIN_VALUE), -1);
        SHEET.due("0 and -1", result(5, 0, -1), 0);
        SHEET.due("0 or 0", result(6, 0, 0), 0);
    }

    private static void ifItIsZero() {
        SHEET.sentence("one is taken; if it is 0, on at t");
        SecretLoom x = Code.loom(Code.LOAD, 0, Code.IFZERO, 3, Code.HALT, 0, Code.PUSH, 0, Code.OUT, 0, Code.HALT, 0);
        int[] values = {0, 1, -1, Integer.MIN_VALUE, Integer.MAX_VALUE, 1 << 16};
        int[] done = {5, 3, 3, 3, 3, 3};
        for (int i = 0; i < values.length; i++) {
            x.let(0, 0, values[i]);
            SHEET.due("run(0, 10) with " + values[i], x.run(0, 10), done[i]);
        }
    }

    private static final int[] INDEXES = {-17, -16, -9, -8, -7, -1, 0, 1, 7, 8, 9, 15, 16, Integer.MIN_VALUE,
        Integer.MIN_VALUE + 1, Integer.MAX_VALUE, Integer.MAX_VALUE - 1};
    private static final int[] MEANT = {7, 0, 7, 0, 1, 7, 0, 1, 7, 0, 1, 7, 0, 0, 1, 7, 6};

    private static void getModuloEight() {
        SHEET.sentence("the int of array a at it (modulo 8, not below 0) put");
        for (int array = 0; array < 2; array++) {
            SecretLoom x = Busy.loom();
            Code.load(x, Code.LOAD, 0, Code.GET, array, Code.OUT, 0, Code.HALT, 0);
            for (int i = 0; i < INDEXES.length; i++) {
                x.let(0, 0, INDEXES[i]);
                x.run(0, 10);
                SHEET.due("GET " + array + " at " + INDEXES[i], x.out(0, 0, 1), 9 + 8 * array + MEANT[i]);
            }
        }
    }

    private static void layModuloEight() {
        SHEET.sentence("the array's int at that (modulo 8, not below 0) becomes the value");
        for (int array = 0; array < 2; array++) {
            for (int i = 0; i < INDEXES.length; i++) {
                SecretLoom x = Code.loom(Code.PUSH, INDEXES[i], Code.PUSH, 55, Code.LAY, array, Code.HALT, 0);
                x.run(1, 10);
                int[] want = new int[24];
                want[8 + 8 * array + MEANT[i]] = 55;
                int[] got = new int[24];
                for (int what = 0; what < 24; what++) {
                    got[what] = x.memory(1, what);
                }
                SHEET.due("ints after LAY " + array + " at " + INDEXES[i], got, want);
            }
        }
    }

    private static void followersOfTheKinds() {
        SHEET.sentence("of JUMP t, of IFZERO the next one and t, of HALT none, of others the next one");
        SecretLoom x = Code.loom(Code.JUMP, 2, Code.PUSH, 0, Code.HALT, 0);
        SHEET.due("surrounding(1) behind JUMP 2", x.surrounding(1), -1);
        SHEET.due("surrounding(2) behind JUMP 2", x.surrounding(2), 0);
        Code.load(x, Code.PUSH, 0, Code.IFZERO, 3, Code.HALT, 0, Code.HALT, 0);
        SHEET.due("surrounding(2), next of IFZERO 3", x.surrounding(2), 0);
        SHEET.due("surrounding(3) of IFZERO 3", x.surrounding(3), 0);
        Code.load(x, Code.HALT, 1, Code.HALT, 0);
        SHEET.due("surrounding(1) behind HALT", x.surrounding(1), -1);
        for (int kind : ANY_LAST) {
            Code.load(x, Code.PUSH, 0, Code.PUSH, 0, kind, 0, Code.HALT, 0);
            SHEET.due("surrounding(3) behind kind " + kind, x.surrounding(3), 0);
        }
    }

    private static void allThatComesNextIsThere() {
        SHEET.sentence("all that comes next is there");
        dueCheck("nothing", -1);
        dueCheck("a HALT alone", 0, Code.HALT, 0);
        dueCheck("a JUMP to itself", 0, Code.JUMP, 0);
        for (int kind : ANY_LAST) {
            dueCheck("kind " + kind + " as the last", -1, Code.PUSH, 0, Code.PUSH, 0, kind, 0);
            dueCheck("kind " + kind + " before the last", 0, Code.PUSH, 0, Code.PUSH, 0, kind, 0, Code.HALT, 0);
        }
        dueCheck("IFZERO as the last", -1, Code.JUMP, 2, Code.HALT, 0, Code.PUSH, 0, Code.IFZERO, 1);
        dueCheck("IFZERO before the last", 0, Code.JUMP, 2, Code.HALT, 0, Code.PUSH, 0, Code.IFZERO, 1, Code.HALT, 0);
    }

    private static void jumpsToWhatIsThere() {
        SHEET.sentence("all that comes next is there");
        dueCheck("JUMP to the last", 0, Code.JUMP, 2, Code.HALT, 0, Code.HALT, 0);
        dueCheck("JUMP behind the last", -1, Code.JUMP, 3, Code.HALT, 0, Code.HALT, 0);
        dueCheck("JUMP far behind", -1, Code.JUMP, 63, Code.HALT, 0, Code.HALT, 0);
        dueCheck("IFZERO to the last", 0, Code.PUSH, 1, Code.IFZERO, 3, Code.HALT, 0, Code.HALT, 0);
        dueCheck("IFZERO behind the last", -1, Code.PUSH, 1, Code.IFZERO, 4, Code.HALT, 0, Code.HALT, 0);
        dueCheck("IFZERO to the first", 0, Code.PUSH, 1, Code.IFZERO, 0, Code.HALT, 0);
        int[] toTheLast = Code.join(new int[] {Code.PUSH, 1, Code.IFZERO, 63}, Code.times(61, Code.HALT, 0));
        dueCheck("IFZERO to the 64th of 63", -1, toTheLast);
        dueCheck("IFZERO to the 64th of 64", 0, Code.join(toTheLast, Code.HALT, 0));
        // It can come next, even if it never does: what is taken is 1 each time.
        dueCheck("a way that is never gone", -1, Code.PUSH, 1, Code.IFZERO, 9, Code.HALT, 0);
    }

    private static void hasWhatIsTaken() {
        SHEET.sentence("the pile has always what is taken");
        int[] takes = {0, 0, 1, 2, 0, 1, 1, 2, 1, 0};
        for (int kind = 0; kind < takes.length; kind++) {
            for (int there = 0; there < 4; there++) {
                int number = kind == Code.JUMP || kind == Code.IFZERO ? there + 1 : 0;
                int[] code = Code.times(there, Code.PUSH, 0, kind, number, Code.HALT, 0);
                dueCheck("kind " + kind + " with " + there, there < takes[kind] ? -1 : 0, code);
            }
        }
    }

    private static void hasWhatIsTakenOnEachWay() {
        SHEET.sentence("from instruction 0 on with an empty pile, whatever way");
        dueCheck("a STORE at once", -1, Code.STORE, 0, Code.HALT, 0);
        dueCheck("too few behind the jump", -1, Code.PUSH, 1, Code.IFZERO, 3, Code.HALT, 0, Code.STORE, 0,
                Code.HALT, 0);
        dueCheck("too few without the jump", -1, Code.PUSH, 0, Code.IFZERO, 4, Code.STORE, 0, Code.HALT, 0,
                Code.HALT, 0);
        dueCheck("too few after others", -1, Code.PUSH, 0, Code.STORE, 0, Code.PUSH, 0, Code.DO, 0, Code.HALT, 0);
        dueCheck("just enough", 0, Code.PUSH, 1, Code.PUSH, 1, Code.IFZERO, 5, Code.STORE, 0, Code.HALT, 0,
                Code.STORE, 0, Code.HALT, 0);
    }

    private static void neverMoreThanSixteen() {
        SHEET.sentence("never more than 16");
        for (int kind : new int[] {Code.PUSH, Code.LOAD}) {
            for (int there = 14; there <= 18; there++) {
                dueCheck(there + " by kind " + kind, there <= 16 ? 0 : -1, Code.times(there, kind, 0, Code.HALT, 0));
                // To take it at once does not help.
                dueCheck(there + " by kind " + kind + ", then OUT", there <= 16 ? 0 : -1,
                        Code.times(there, kind, 0, Code.OUT, 0, Code.HALT, 0));
            }
        }
        int[] branch = {Code.PUSH, 1, Code.IFZERO, 3, Code.HALT, 0};
        dueCheck("16 on one way", 0, Code.join(branch, Code.times(16, Code.PUSH, 0, Code.HALT, 0)));
        dueCheck("17 on one way", -1, Code.join(branch, Code.times(17, Code.PUSH, 0, Code.HALT, 0)));
    }

    private static void sixteenCanBeUsed() {
        SHEET.sentence("never more than 16");
        dueCheck("GET with 16", 0, Code.times(16, Code.PUSH, 0, Code.GET, 0, Code.HALT, 0));
        dueCheck("DO with 16, and one more", 0, Code.times(16, Code.PUSH, 0, Code.DO, 0, Code.PUSH, 0, Code.HALT, 0));
        dueCheck("GET with 16, and one more", -1,
                Code.times(16, Code.PUSH, 0, Code.GET, 0, Code.PUSH, 0, Code.HALT, 0));
        dueCheck("DO with 16, and two more", -1,
                Code.times(16, Code.PUSH, 0, Code.DO, 0, Code.PUSH, 0, Code.PUSH, 0, Code.HALT, 0));
        int[] sixteenOut = Code.times(16, Code.OUT, 0, Code.HALT, 0);
        SecretLoom x = new SecretLoom();
        for (int i = 0; i < 16; i++) {
            x.instruction(Code.PUSH, i + 1);
        }
        for (int i = 0; i < sixteenOut.length; i += 2) {
            x.instruction(sixteenOut[i], sixteenOut[i + 1]);
        }
        SHEET.due("run(0, 100) with 16", x.run(0, 100), 33);
        for (int i = 0; i < 16; i++) {
            SHEET.due("out(0, " + i + ", 1)", x.out(0, i, 1), 16 - i);
        }
    }

    private static void asManyWhateverWay() {
        SHEET.sentence("at an instruction as many, whatever way one comes");
        dueCheck("as many on both", 0, Code.PUSH, 1, Code.IFZERO, 4, Code.PUSH, 1, Code.JUMP, 5, Code.PUSH, 2,
                Code.HALT, 0);
        dueCheck("one more without the jump", -1, Code.PUSH, 1, Code.IFZERO, 3, Code.PUSH, 1, Code.HALT, 0);
        dueCheck("one more by the jump", -1, Code.PUSH, 1, Code.IFZERO, 3, Code.HALT, 0, Code.PUSH, 1, Code.JUMP, 2);
        dueCheck("one fewer without the jump", -1, Code.PUSH, 1, Code.PUSH, 1, Code.IFZERO, 4, Code.STORE, 0,
                Code.HALT, 0);
        dueCheck("as many after a round", 0, Code.PUSH, 1, Code.STORE, 0, Code.JUMP, 0);
        dueCheck("one more after a round", -1, Code.PUSH, 1, Code.JUMP, 0);
        dueCheck("one fewer after a round", -1, Code.PUSH, 1, Code.PUSH, 1, Code.STORE, 0, Code.JUMP, 2);
        dueCheck("IFZERO to itself", -1, Code.PUSH, 1, Code.PUSH, 1, Code.IFZERO, 2, Code.HALT, 0);
        dueCheck("two HALTs need not have as many", 0, Code.PUSH, 1, Code.IFZERO, 3, Code.HALT, 0, Code.PUSH, 1,
                Code.HALT, 0);
    }

    private static void onlyWhatIsMet() {
        SHEET.sentence("An instruction that can be come to from 0 is MET");
        dueCheck("nothing to take, not met", 0, Code.HALT, 0, Code.STORE, 0);
        dueCheck("a jump to nowhere, not met", 0, Code.JUMP, 2, Code.JUMP, 63, Code.HALT, 0);
        dueCheck("17, not met", 0, Code.join(new int[] {Code.HALT, 0}, Code.times(17, Code.PUSH, 0, Code.HALT, 0)));
        dueCheck("another number on the pile, not met", 0, Code.JUMP, 2, Code.PUSH, 0, Code.HALT, 0, Code.JUMP, 1);
        dueCheck("met by the jump back alone", -1, Code.JUMP, 2, Code.STORE, 0, Code.JUMP, 1, Code.HALT, 0);
    }

    private static void whatStaysOnThePile() {
        SHEET.sentence("what stays on the pile has the level that it had");
        int[] takes = {0, 0, 1, 2, 0, 1, 1, 2, 1};
        int[] puts = {1, 1, 0, 1, 0, 0, 1, 0, 0};
        for (int kind = 0; kind <= Code.OUT; kind++) {
            if (kind == Code.IFZERO) {
                continue;
            }
            SecretLoom x = Code.loom(Code.LOAD, 1, Code.PUSH, 0, Code.LOAD, 2, Code.LOAD, 3, Code.LOAD, 3,
                    kind, kind == Code.JUMP ? 6 : 0, Code.HALT, 0);
            x.level(Code.VARIABLE, 1, 1);
            x.level(Code.VARIABLE, 2, 2);
            x.level(Code.VARIABLE, 3, 3);
            int[] had = {1, 0, 2, 3, 3};
            for (int i = 0; i < 5 - takes[kind]; i++) {
                SHEET.due("pile(6, " + i + ") behind kind " + kind, x.pile(6, i), had[i]);
            }
            int there = 5 - takes[kind] + puts[kind];
            SHEET.due("pile(6, " + there + ") behind kind " + kind, x.pile(6, there), -1);
        }
    }

    private static void whatIsTakenIsGone() {
        SHEET.sentence("what stays on the pile has the level that it had");
        SecretLoom x = Code.loom(Code.LOAD, 3, Code.LOAD, 3, Code.LAY, 0, Code.PUSH, 0, Code.PUSH, 0, Code.HALT, 0);
        x.level(Code.VARIABLE, 3, 3);
        SHEET.due("pile(2, 0) before it is taken", x.pile(2, 0), 3);
        SHEET.due("pile(4, 0), put where it was", x.pile(4, 0), 0);
        SHEET.due("pile(5, 1), put where it was", x.pile(5, 1), 0);
        Code.load(x, Code.PUSH, 0, Code.LOAD, 3, Code.STORE, 3, Code.PUSH, 0, Code.HALT, 0);
        SHEET.due("pile(2, 1) before it is taken", x.pile(2, 1), 3);
        SHEET.due("pile(4, 0), what stays", x.pile(4, 0), 0);
        SHEET.due("pile(4, 1), put where it was", x.pile(4, 1), 0);
    }

    private static void ifzeroLeavesEachInt() {
        SHEET.sentence("but IFZERO leaves each int with its level and that of what it took together");
        SecretLoom x = Code.loom(
                Code.times(15, Code.LOAD, 1, Code.LOAD, 2, Code.IFZERO, 18, Code.HALT, 0, Code.HALT, 0));
        x.level(Code.VARIABLE, 1, 1);
        x.level(Code.VARIABLE, 2, 2);
        for (int i = 0; i < 15; i++) {
            SHEET.due("pile(16, " + i + ") before", x.pile(16, i), 1);
            SHEET.due("pile(17, " + i + ") next", x.pile(17, i), 3);
            SHEET.due("pile(18, " + i + ") by the jump", x.pile(18, i), 3);
        }
        SHEET.due("pile(16, 15) before", x.pile(16, 15), 2);
        SHEET.due("pile(17, 15) next", x.pile(17, 15), -1);
    }
}
