/** The example of README.md, call by call: what it says is what is answered. */
public final class UseTest {
    private static final Sheet SHEET = new Sheet("UseTest");

    public static void main(String[] args) {
        SecretLoom x = new SecretLoom();
        aBranchByASecret(x);
        whoMayKnow(x);
        twoRuns(x);
        readersOfTheChannel(x);
        SHEET.end();
    }

    private static void aBranchByASecret(SecretLoom x) {
        SHEET.due("instruction(1, 0)", x.instruction(1, 0), 0);
        SHEET.due("instruction(5, 4)", x.instruction(5, 4), 1);
        SHEET.due("instruction(0, 7)", x.instruction(0, 7), 2);
        SHEET.due("instruction(8, 0)", x.instruction(8, 0), 3);
        SHEET.due("instruction(9, 0)", x.instruction(9, 0), 4);
        SHEET.due("check()", x.check(), 0);
    }

    private static void whoMayKnow(SecretLoom x) {
        SHEET.due("level(0, 0, 1)", x.level(0, 0, 1), true);
        SHEET.due("check()", x.check(), 4);
        SHEET.due("junction(1)", x.junction(1), 4);
        SHEET.due("surrounding(3)", x.surrounding(3), 1);
        SHEET.due("pile(3, 0)", x.pile(3, 0), 1);
    }

    private static void twoRuns(SecretLoom x) {
        SHEET.due("let(0, 0, 5)", x.let(0, 0, 5), true);
        SHEET.due("run(0, 100)", x.run(0, 100), 5);
        SHEET.due("run(1, 100)", x.run(1, 100), 3);
        SHEET.due("ran(0, 1)", x.ran(0, 1), 1);
        SHEET.due("out(0, 0, 1)", x.out(0, 0, 1), 7);
        SHEET.due("same(0)", x.same(0), 0);
    }

    private static void readersOfTheChannel(SecretLoom x) {
        SHEET.due("level(2, 0, 1)", x.level(2, 0, 1), true);
        SHEET.due("check()", x.check(), 0);
        SHEET.due("same(0)", x.same(0), 1);
    }
}
