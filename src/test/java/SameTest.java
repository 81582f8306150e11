/** Promise 14: same. */
public final class SameTest {
    private static final Sheet SHEET = new Sheet("SameTest");

    public static void main(String[] args) {
        byChannelsBelow();
        byLevelsAsTheyAreNow();
        byChannelToo();
        byOrderAndLength();
        noneWithoutBothHalts();
        noSuchLevel();
        firstSixtyFourOfEach();
        SHEET.end();
    }

    private static void dueSame(String name, SecretLoom x, int... want) {
        for (int level = 0; level < 4; level++) {
            SHEET.due(name + ": same(" + level + ")", x.same(level), want[level]);
        }
    }

    private static SecretLoom loadsOnChannels() {
        SecretLoom x = Code.loom(Code.LOAD, 0, Code.OUT, 0, Code.LOAD, 1, Code.OUT, 1, Code.LOAD, 2, Code.OUT, 2,
                Code.LOAD, 3, Code.OUT, 3, Code.HALT, 0);
        for (int c = 0; c < 4; c++) {
            x.level(Code.CHANNEL, c, c);
        }
        return x;
    }

    private static void runBoth(SecretLoom x) {
        x.run(0, 10_000);
        x.run(1, 10_000);
    }

    private static void byChannelsBelow() {
        int[][] want = {{0, 0, 0, 0}, {1, 0, 1, 0}, {1, 1, 0, 0}, {1, 1, 1, 0}};
        for (int variable = 0; variable < 4; variable++) {
            SecretLoom x = loadsOnChannels();
            runBoth(x);
            dueSame("alike", x, 1, 1, 1, 1);
            x.let(0, variable, 1);
            dueSame("alike till they are run", x, 1, 1, 1, 1);
            runBoth(x);
            dueSame("variable " + variable, x, want[variable]);
        }
    }

    private static void byLevelsAsTheyAreNow() {
        SecretLoom x = loadsOnChannels();
        x.let(1, 1, 5);
        runBoth(x);
        dueSame("channel 1 at 1", x, 1, 0, 1, 0);
        x.level(Code.CHANNEL, 1, 2);
        dueSame("channel 1 at 2", x, 1, 1, 0, 0);
        x.clear();
        x.level(Code.CHANNEL, 1, 3);
        dueSame("channel 1 at 3, cleared", x, 1, 1, 1, 0);
        x.level(Code.CHANNEL, 1, 0);
        dueSame("channel 1 at 0, cleared", x, 0, 0, 0, 0);
    }

    private static void byChannelToo() {
        SecretLoom x = Code.loom(Code.PUSH, 4, Code.OUT, 0, Code.HALT, 0);
        x.run(0, 10);
        Code.load(x, Code.PUSH, 4, Code.OUT, 1, Code.HALT, 0);
        x.run(1, 10);
        dueSame("another channel", x, 0, 0, 0, 0);
    }

    private static void byOrderAndLength() {
        SecretLoom x = Code.loom(Code.PUSH, 4, Code.OUT, 0, Code.PUSH, 5, Code.OUT, 0, Code.HALT, 0);
        x.run(0, 10);
        Code.load(x, Code.PUSH, 5, Code.OUT, 0, Code.PUSH, 4, Code.OUT, 0, Code.HALT, 0);
        x.run(1, 10);
        dueSame("another order", x, 0, 0, 0, 0);
        Code.load(x, Code.PUSH, 4, Code.OUT, 0, Code.HALT, 0);
        x.run(1, 10);
        dueSame("a shorter row", x, 0, 0, 0, 0);
        Code.load(x, Code.HALT, 0);
        x.run(1, 10);
        dueSame("nothing on one side", x, 0, 0, 0, 0);
        x.run(0, 10);
        dueSame("nothing on both", x, 1, 1, 1, 1);
        // The order between channels counts where both are seen, what is not seen between them does not.
        x.level(Code.CHANNEL, 1, 1);
        x.level(Code.CHANNEL, 2, 2);
        Code.load(x, Code.PUSH, 1, Code.OUT, 1, Code.PUSH, 2, Code.OUT, 2, Code.PUSH, 3, Code.OUT, 0, Code.HALT, 0);
        x.run(0, 10);
        Code.load(x, Code.PUSH, 2, Code.OUT, 2, Code.PUSH, 1, Code.OUT, 1, Code.PUSH, 3, Code.OUT, 0, Code.HALT, 0);
        x.run(1, 10);
        dueSame("two channels", x, 1, 1, 1, 0);
    }

    private static void noneWithoutBothHalts() {
        SecretLoom x = Code.loom(Code.PUSH, 4, Code.OUT, 0, Code.HALT, 0);
        dueSame("no run", x, -1, -1, -1, -1);
        x.run(0, 10);
        dueSame("one run", x, -1, -1, -1, -1);
        x.run(1, 2);
        dueSame("the other not to its end", x, -1, -1, -1, -1);
        x.run(1, 3);
        dueSame("both", x, 1, 1, 1, 1);
        x.run(0, 0);
        dueSame("one of none", x, -1, -1, -1, -1);
        x.run(0, 3);
        x.clear();
        x.run(1, 3);
        dueSame("a run that was refused", x, 1, 1, 1, 1);
        SecretLoom y = Code.loom(Code.HALT, 0);
        y.run(1, 1);
        dueSame("the second alone", y, -1, -1, -1, -1);
    }

    private static void noSuchLevel() {
        SecretLoom x = Code.loom(Code.HALT, 0);
        runBoth(x);
        for (int bad : new int[] {Integer.MIN_VALUE, -1, 4, 5, Integer.MAX_VALUE}) {
            SHEET.due("same(" + bad + ")", x.same(bad), -1);
        }
        SHEET.due("same(3)", x.same(3), 1);
    }

    /** Variable 0 counts down, each round something comes out on channel 1; at the end a 9 on channel 0. */
    private static SecretLoom countDown(int first, int second) {
        SecretLoom x = Code.loom(Code.LOAD, 0, Code.IFZERO, 9, Code.LOAD, 0, Code.PUSH, 1, Code.DO, 1, Code.STORE, 0,
                Code.PUSH, 7, Code.OUT, 1, Code.JUMP, 0, Code.PUSH, 9, Code.OUT, 0, Code.HALT, 0);
        x.level(Code.CHANNEL, 1, 1);
        x.let(0, 0, first);
        x.let(1, 0, second);
        runBoth(x);
        return x;
    }

    private static void firstSixtyFourOfEach() {
        dueSame("10 and 63", countDown(10, 63), 1, 0, 1, 0);
        dueSame("10 and 64", countDown(10, 64), 0, 0, 0, 0);
        dueSame("63 and 64", countDown(63, 64), 0, 0, 0, 0);
        dueSame("64 and 100", countDown(64, 100), 1, 1, 1, 1);
    }
}
