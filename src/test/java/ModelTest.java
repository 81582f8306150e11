/** All promises at once: thrown calls, wild ones too, answered by SecretLoom and by PlainLoom. */
public final class ModelTest {
    private static final Sheet SHEET = new Sheet("ModelTest");
    private static final int OBJECTS = 2_000;
    private static final int MOST_CALLS = 512;
    /** A program of 64 with all that is asked of it: no other step makes more calls. */
    private static final int LONGEST_STEP = 178;

    private final Dice dice;
    private final Maker maker;
    private final SecretLoom x = new SecretLoom();
    private final PlainLoom y = new PlainLoom();
    private final long seed;
    private int calls;
    private static int wellFormed;
    private static int unsafe;
    private static int junctions;
    private static int sames;

    private ModelTest(long seed) {
        this.seed = seed;
        dice = new Dice(seed);
        maker = new Maker(dice);
    }

    public static void main(String[] args) {
        for (int seed = 1; seed <= OBJECTS && !SHEET.isFull(); seed++) {
            ModelTest test = new ModelTest(seed);
            try {
                test.go();
            } catch (RuntimeException e) {
                SHEET.tell("seed " + seed + " threw " + e);
            }
        }
        // Without these the comparison would say nothing.
        System.out.println(wellFormed + " well formed, " + unsafe + " unsafe, " + junctions + " junctions, "
                + sames + " not same");
        SHEET.due("enough well formed", wellFormed > 1_000, true);
        SHEET.due("enough unsafe", unsafe > 500, true);
        SHEET.due("enough junctions", junctions > 1_000, true);
        SHEET.due("enough sames", sames > 100, true);
        SHEET.end();
    }

    private void go() {
        someLevels();
        program();
        while (calls + LONGEST_STEP <= MOST_CALLS) {
            switch (dice.below(8)) {
                case 0:
                    if (dice.oneIn(3)) {
                        program();
                    }
                    break;
                case 1:
                    oneMore(dice.about(10), dice.oneIn(4) ? dice.anyInt() : dice.about(8));
                    break;
                case 2:
                    someLevels();
                    break;
                case 3:
                    someMemory();
                    break;
                case 4:
                    someRuns();
                    break;
                default:
                    ask();
                    break;
            }
        }
    }

    private void due(String call, long got, long want) {
        calls++;
        SHEET.due("seed " + seed + ", call " + calls + ", " + call, got, want);
    }

    private void program() {
        x.clear();
        y.clear();
        calls++;
        int size = dice.oneIn(10) ? 64 : 4 + dice.below(24);
        int[] code = maker.wellFormed(size, dice.oneIn(6) ? 16 : 4);
        if (dice.oneIn(8)) {
            code[dice.below(code.length)] = dice.below(10);
        }
        for (int i = 0; i < code.length; i += 2) {
            oneMore(code[i], code[i + 1]);
        }
        askAll();
    }

    private void oneMore(int kind, int number) {
        due("instruction(" + kind + ", " + number + ")", x.instruction(kind, number), y.instruction(kind, number));
    }

    private void someLevels() {
        for (int i = dice.below(6); i >= 0; i--) {
            int what = dice.about(3);
            int k = dice.about(what == 0 ? 8 : what == 1 ? 2 : 4);
            int level = dice.about(4);
            due("level(" + what + ", " + k + ", " + level + ")", x.level(what, k, level) ? 1 : 0,
                    y.level(what, k, level) ? 1 : 0);
        }
        int got = x.check();
        unsafe += got > 0 ? 1 : 0;
        due("check()", got, y.check());
    }

    private void someMemory() {
        int m = dice.about(2);
        int k = dice.about(8);
        int v = dice.anyInt();
        int array = dice.about(2);
        due("let(" + m + ", " + k + ", " + v + ")", x.let(m, k, v) ? 1 : 0, y.let(m, k, v) ? 1 : 0);
        due("lay(" + m + ", " + array + ", " + k + ", " + v + ")", x.lay(m, array, k, v) ? 1 : 0,
                y.lay(m, array, k, v) ? 1 : 0);
    }

    private void someRuns() {
        int n = dice.oneIn(3) ? dice.anyInt() : dice.below(400);
        for (int i = 0; i < 2; i++) {
            int m = dice.oneIn(4) ? dice.about(2) : i;
            due("run(" + m + ", " + n + ")", x.run(m, n), y.run(m, n));
        }
        for (int m = 0; m < 2; m++) {
            due("ran(" + m + ", 0)", x.ran(m, 0), y.ran(m, 0));
            due("ran(" + m + ", 1)", x.ran(m, 1), y.ran(m, 1));
            for (int i = 0; i < 3; i++) {
                int at = dice.oneIn(2) ? dice.below(64) : i;
                due("out(" + m + ", " + at + ", 0)", x.out(m, at, 0), y.out(m, at, 0));
                due("out(" + m + ", " + at + ", 1)", x.out(m, at, 1), y.out(m, at, 1));
            }
        }
        for (int level = 0; level < 4; level++) {
            int got = x.same(level);
            sames += got == 0 ? 1 : 0;
            due("same(" + level + ")", got, y.same(level));
        }
        for (int what = 0; what < 24; what++) {
            due("memory(.., " + what + ")", x.memory(what % 2, what), y.memory(what % 2, what));
        }
    }

    private void ask() {
        int place = dice.about(64);
        int i = dice.about(4);
        int m = dice.about(2);
        int what = dice.about(24);
        due("check()", x.check(), y.check());
        due("surrounding(" + place + ")", x.surrounding(place), y.surrounding(place));
        due("pile(" + place + ", " + i + ")", x.pile(place, i), y.pile(place, i));
        due("junction(" + place + ")", x.junction(place), y.junction(place));
        due("ran(" + m + ", " + i + ")", x.ran(m, i), y.ran(m, i));
        due("out(" + m + ", " + place + ", " + i + ")", x.out(m, place, i), y.out(m, place, i));
        due("memory(" + m + ", " + what + ")", x.memory(m, what), y.memory(m, what));
        due("same(" + i + ")", x.same(i), y.same(i));
    }

    private void askAll() {
        int got = x.check();
        wellFormed += got >= 0 ? 1 : 0;
        due("check()", got, y.check());
        someLevels();
        for (int place = -1; place < 20; place++) {
            int junction = x.junction(place);
            junctions += junction >= 0 ? 1 : 0;
            due("junction(" + place + ")", junction, y.junction(place));
            due("surrounding(" + place + ")", x.surrounding(place), y.surrounding(place));
            for (int i = 0; i < 3; i++) {
                due("pile(" + place + ", " + i + ")", x.pile(place, i), y.pile(place, i));
            }
        }
    }
}
