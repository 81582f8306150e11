/** Promise 14: each sentence of it that names a boundary. */
public final class SameEdgeTest {
    private static final Sheet SHEET = new Sheet("SameEdgeTest");
    /** As often as variable 0 says a 7 comes out on channel 1; then variable 1 on channel 0, and it halts. */
    private static final int[] SEVENS = {Code.LOAD, 0, Code.IFZERO, 9, Code.LOAD, 0, Code.PUSH, 1, Code.DO, 1,
        Code.STORE, 0, Code.PUSH, 7, Code.OUT, 1, Code.JUMP, 0, Code.LOAD, 1, Code.OUT, 0, Code.HALT, 0};

    public static void main(String[] args) {
        noSuchLevel();
        oneDidNotHalt();
        oneWasNeverRun();
        nothingCameOut();
        belowTheLevel();
        eachWithItsChannel();
        oneMoreOnOneSide();
        inAnotherOrder();
        theSixtyFourth();
        whateverTheirChannels();
        levelsAsTheyAreNow();
        SHEET.end();
    }

    private static void dueSame(String name, SecretLoom x, int... want) {
        int[] got = new int[4];
        for (int level = 0; level < 4; level++) {
            got[level] = x.same(level);
        }
        SHEET.due("same(0 .. 3) of " + name, got, want);
    }

    private static SecretLoom ran(int[] first, int[] second) {
        SecretLoom x = Code.loom(first);
        x.run(0, 10_000);
        Code.load(x, second);
        x.run(1, 10_000);
        return x;
    }

    private static void noSuchLevel() {
        SHEET.sentence("14: NONE if there is no such level");
        SecretLoom x = ran(SEVENS, SEVENS);
        dueSame("both alike", x, 1, 1, 1, 1);
        for (int level : Code.outside(4)) {
            SHEET.due("same(" + level + ")", x.same(level), -1);
        }
    }

    private static void oneDidNotHalt() {
        SHEET.sentence("14: or one of both runs did not come to a HALT");
        // The fourth instruction is the HALT: three are one too few.
        int[] code = {Code.PUSH, 4, Code.OUT, 0, Code.JUMP, 3, Code.HALT, 0};
        int[][] steps = {{4, 4}, {3, 4}, {4, 3}, {3, 3}, {0, 4}, {4, 0}, {4, 4}};
        int[] want = {1, -1, -1, -1, -1, -1, 1};
        SecretLoom x = Code.loom(code);
        for (int i = 0; i < steps.length; i++) {
            x.run(0, steps[i][0]);
            x.run(1, steps[i][1]);
            dueSame(steps[i][0] + " and " + steps[i][1] + " instructions", x, want[i], want[i], want[i], want[i]);
        }
        dueSame("10,000 instructions and no end", ran(new int[] {Code.JUMP, 0}, code), -1, -1, -1, -1);
    }

    private static void oneWasNeverRun() {
        SHEET.sentence("14: or one of both runs did not come to a HALT");
        SecretLoom x = Code.loom(Code.HALT, 0);
        dueSame("no runs", x, -1, -1, -1, -1);
        x.run(1, 5);
        dueSame("the second alone", x, -1, -1, -1, -1);
        SecretLoom y = Code.loom(Code.HALT, 0);
        y.run(0, 5);
        dueSame("the first alone", y, -1, -1, -1, -1);
        y.run(2, 5);
        dueSame("one refused", y, -1, -1, -1, -1);
        y.run(1, 5);
        dueSame("both", y, 1, 1, 1, 1);
    }

    private static void nothingCameOut() {
        SHEET.sentence("14: the rows of ints, each with its channel, that came out");
        int[] nothing = {Code.HALT, 0};
        int[] zero = {Code.PUSH, 0, Code.OUT, 0, Code.HALT, 0};
        dueSame("nothing on both sides", ran(nothing, nothing), 1, 1, 1, 1);
        dueSame("a 0 on one side", ran(zero, nothing), 0, 0, 0, 0);
        dueSame("a 0 on the other side", ran(nothing, zero), 0, 0, 0, 0);
        dueSame("a 0 on both sides", ran(zero, zero), 1, 1, 1, 1);
    }

    private static void belowTheLevel() {
        SHEET.sentence("14: on channels whose level is below a level");
        int[][] want = {{0, 0, 0, 0}, {1, 0, 1, 0}, {1, 1, 0, 0}, {1, 1, 1, 0}};
        for (int level = 0; level < 4; level++) {
            SecretLoom x = ran(new int[] {Code.PUSH, 1, Code.OUT, 2, Code.HALT, 0},
                    new int[] {Code.PUSH, 2, Code.OUT, 2, Code.HALT, 0});
            x.level(Code.CHANNEL, 2, level);
            dueSame("a channel of level " + level, x, want[level]);
        }
    }

    private static void eachWithItsChannel() {
        SHEET.sentence("14: the rows of ints, each with its channel");
        for (int channel = 0; channel < 4; channel++) {
            for (int other = 0; other < 4; other++) {
                SecretLoom x = ran(new int[] {Code.PUSH, 1, Code.OUT, channel, Code.HALT, 0},
                        new int[] {Code.PUSH, 1, Code.OUT, other, Code.HALT, 0});
                SHEET.due("same(0) of channels " + channel + " and " + other, x.same(0), channel == other ? 1 : 0);
            }
        }
    }

    private static void oneMoreOnOneSide() {
        SHEET.sentence("14: the rows of ints, each with its channel, that came out");
        int[] one = {Code.PUSH, 1, Code.OUT, 0, Code.HALT, 0};
        int[] two = {Code.PUSH, 1, Code.OUT, 0, Code.PUSH, 1, Code.OUT, 0, Code.HALT, 0};
        dueSame("one and two", ran(one, two), 0, 0, 0, 0);
        dueSame("two and one", ran(two, one), 0, 0, 0, 0);
        dueSame("two and two", ran(two, two), 1, 1, 1, 1);
    }

    private static void inAnotherOrder() {
        SHEET.sentence("14: the rows of ints, each with its channel, that came out");
        int[] one = {Code.PUSH, 1, Code.OUT, 1, Code.PUSH, 2, Code.OUT, 2, Code.HALT, 0};
        int[] other = {Code.PUSH, 2, Code.OUT, 2, Code.PUSH, 1, Code.OUT, 1, Code.HALT, 0};
        SecretLoom x = ran(one, other);
        dueSame("two channels in another order", x, 0, 0, 0, 0);
        x.level(Code.CHANNEL, 1, 1);
        x.level(Code.CHANNEL, 2, 2);
        // The order is seen by those alone who see both channels.
        dueSame("two channels of two owners in another order", x, 1, 1, 1, 0);
        dueSame("two channels of two owners in one order", ran(one, one), 1, 1, 1, 1);
        int[] turned = {Code.PUSH, 2, Code.OUT, 1, Code.PUSH, 1, Code.OUT, 2, Code.HALT, 0};
        dueSame("the ints in another order", ran(one, turned), 0, 0, 0, 0);
    }

    private static SecretLoom sevens(int first, int second) {
        SecretLoom x = Code.loom(SEVENS);
        x.let(0, 0, first);
        x.let(1, 0, second);
        x.let(1, 1, 99);
        x.run(0, 10_000);
        x.run(1, 10_000);
        return x;
    }

    private static void theSixtyFourth() {
        SHEET.sentence("14: of the first 64 ints of each run");
        dueSame("another 63rd", sevens(62, 62), 0, 0, 0, 0);
        dueSame("another 64th", sevens(63, 63), 0, 0, 0, 0);
        dueSame("another 65th", sevens(64, 64), 1, 1, 1, 1);
        dueSame("64 and 65 alike before", sevens(64, 65), 1, 1, 1, 1);
        dueSame("64 and 1,000 alike before", sevens(64, 1_000), 1, 1, 1, 1);
        dueSame("63 and 64 alike before", sevens(63, 64), 0, 0, 0, 0);
    }

    private static void whateverTheirChannels() {
        SHEET.sentence("14: whatever their channels");
        // Channel 1 is not seen at levels 0 and 2: what comes out there is counted all the same.
        int[] counts = {62, 63, 64, 65};
        int[] want = {0, 0, 1, 1};
        for (int i = 0; i < counts.length; i++) {
            SecretLoom x = sevens(counts[i], counts[i]);
            x.level(Code.CHANNEL, 1, 1);
            dueSame("another int after " + counts[i] + " not seen", x, want[i], want[i], want[i], want[i]);
        }
        SecretLoom x = sevens(10, 64);
        x.level(Code.CHANNEL, 1, 1);
        dueSame("one seen on one side alone", x, 0, 0, 0, 0);
        SecretLoom y = sevens(64, 70);
        y.level(Code.CHANNEL, 1, 1);
        dueSame("none seen on both sides", y, 1, 1, 1, 1);
    }

    private static void levelsAsTheyAreNow() {
        SHEET.sentence("14: by the levels as they are now");
        SecretLoom x = sevens(1, 1);
        dueSame("channel 0 at 0", x, 0, 0, 0, 0);
        x.level(Code.CHANNEL, 0, 2);
        dueSame("channel 0 at 2", x, 1, 1, 0, 0);
        x.level(Code.CHANNEL, 0, 4);
        dueSame("channel 0 still at 2", x, 1, 1, 0, 0);
        x.level(Code.CHANNEL, 0, 3);
        dueSame("channel 0 at 3", x, 1, 1, 1, 0);
        x.level(Code.VARIABLE, 0, 3);
        dueSame("a variable's level", x, 1, 1, 1, 0);
        x.clear();
        x.level(Code.CHANNEL, 0, 1);
        dueSame("channel 0 at 1, no program", x, 1, 0, 1, 0);
    }
}
