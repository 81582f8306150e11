/** What check is for: a program that it passes tells readers nothing of what they must not know. */
public final class SecretTest {
    private static final Sheet SHEET = new Sheet("SecretTest");

    public static void main(String[] args) {
        Dice dice = new Dice(77);
        Maker maker = new Maker(dice);
        // Of those that pass, the ones whose runs went different ways: with others it is no wonder.
        int passed = 0;
        int telling = 0;
        for (int round = 0; round < 60_000; round++) {
            int[] code = maker.wellFormed(4 + dice.below(16), 4);
            SecretLoom x = Code.loom(code);
            throwLevels(x, dice);
            int check = x.check();
            int level = dice.below(4);
            throwMemories(x, dice, level);
            boolean apart = x.run(0, 300) != x.run(1, 300);
            if (x.same(level) == Code.NONE || x.ran(0, 1) > 64 || x.ran(1, 1) > 64) {
                continue;
            }
            if (check == 0) {
                passed += apart || x.same(3) == 0 ? 1 : 0;
                SHEET.due("round " + round + ", same(" + level + ") of " + java.util.Arrays.toString(code),
                        x.same(level), 1);
            } else {
                telling += 1 - x.same(level);
            }
        }
        System.out.println(passed + " pass, " + telling + " tell");
        SHEET.due("enough that pass: " + passed, passed > 500, true);
        SHEET.due("enough that tell: " + telling, telling > 50, true);
        SHEET.end();
    }

    private static final int[] COUNTS = {8, 2, 4};
    private static int[][] levels;

    private static void throwLevels(SecretLoom x, Dice dice) {
        levels = new int[][] {new int[8], new int[2], new int[4]};
        for (int what = 0; what < 3; what++) {
            for (int k = 0; k < COUNTS[what]; k++) {
                levels[what][k] = dice.below(4);
                x.level(what, k, levels[what][k]);
            }
        }
    }

    /** Alike where a level may know, else not. */
    private static void throwMemories(SecretLoom x, Dice dice, int level) {
        for (int k = 0; k < 8; k++) {
            int v = dice.below(3);
            x.let(0, k, v);
            x.let(1, k, (levels[0][k] | level) == level ? v : dice.below(3));
            for (int array = 0; array < 2; array++) {
                x.lay(0, array, k, v);
                x.lay(1, array, k, (levels[1][array] | level) == level ? v : dice.below(3));
            }
        }
    }
}
