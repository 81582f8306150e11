/** Promises 11 to 13: each sentence of theirs that names a boundary. */
public final class RunEdgeTest {
    private static final Sheet SHEET = new Sheet("RunEdgeTest");
    /** Counts variable 0 down, seven instructions a round; then two more and what comes behind them. */
    private static final int[] COUNT_DOWN = {Code.LOAD, 0, Code.IFZERO, 7, Code.LOAD, 0, Code.PUSH, 1, Code.DO, 1,
        Code.STORE, 0, Code.JUMP, 0};
    /** Counts variable 0 up and lets it out, seven instructions a round, without end. */
    private static final int[] COUNT_OUT = {Code.LOAD, 0, Code.PUSH, 1, Code.DO, 0, Code.STORE, 0, Code.LOAD, 0,
        Code.OUT, 3, Code.JUMP, 0};

    public static void main(String[] args) {
        memoryIsChanged();
        pileIsEmptyAgain();
        whatIsNotTakenStays();
        instructionsAtMost();
        haltCountsToo();
        tenThousandIfMore();
        haltAtTheTenThousandth();
        belowOne();
        belowOneIsTheLatest();
        notWellFormed();
        noSuchMemory();
        cameToAHalt();
        howManyCameOut();
        thereWasNone();
        forAnotherWhat();
        theIthFromZeroOn();
        theFirstSixtyFourAlone();
        outOfNoneSuch();
        outOfTheLatestAlone();
        SHEET.end();
    }

    private static void memoryIsChanged() {
        SHEET.sentence("11: is run with memory m (which is changed), from instruction 0 on");
        for (int m = 0; m < 2; m++) {
            SecretLoom x = Code.loom(Code.PUSH, 4, Code.STORE, 7, Code.PUSH, 7, Code.PUSH, 5, Code.LAY, 1,
                    Code.HALT, 0);
            x.run(m, 10);
            SHEET.due("memory(" + m + ", 7)", x.memory(m, 7), 4);
            SHEET.due("memory(" + m + ", 23)", x.memory(m, 23), 5);
            SHEET.due("memory of the other, 7", x.memory(1 - m, 7), 0);
            SHEET.due("memory of the other, 23", x.memory(1 - m, 23), 0);
            x.run(m, 1);
            SHEET.due("run(.., 4), once more from 0 on", x.run(m, 4), 4);
        }
    }

    private static void pileIsEmptyAgain() {
        SHEET.sentence("from instruction 0 on with an empty pile");
        SecretLoom x = new SecretLoom();
        for (int round = 0; round < 3; round++) {
            Code.load(x, Code.times(16, Code.PUSH, 9, Code.HALT, 0));
            SHEET.due("run(0, 50) that leaves 16", x.run(0, 50), 17);
            Code.load(x, Code.PUSH, round, Code.OUT, 0, Code.HALT, 0);
            SHEET.due("run(0, 50) after it", x.run(0, 50), 3);
            SHEET.due("out(0, 0, 1) after it", x.out(0, 0, 1), round);
        }
    }

    private static void whatIsNotTakenStays() {
        SHEET.sentence("the upper one b and the lower one a are taken, and put is");
        int[] takes = {0, 0, 1, 2, 0, 1, 1, 2, 1};
        int[] puts = {1, 1, 0, 1, 0, 0, 1, 0, 0};
        for (int kind = 0; kind <= Code.OUT; kind++) {
            int place = 3 + takes[kind];
            int number = kind == Code.JUMP || kind == Code.IFZERO ? place + 1 : 1;
            int[] code = Code.join(new int[] {Code.PUSH, 21, Code.PUSH, 22, Code.PUSH, 23},
                    Code.times(takes[kind], Code.PUSH, 5, kind, number));
            code = Code.join(code, Code.times(puts[kind], Code.STORE, 0));
            code = Code.join(code, Code.OUT, 2, Code.OUT, 2, Code.OUT, 2, Code.HALT, 0);
            SecretLoom x = Code.loom(code);
            SHEET.due("run(0, 50) with kind " + kind, x.run(0, 50), code.length / 2);
            int before = kind == Code.OUT ? 1 : 0;
            SHEET.due("ran(0, 1) with kind " + kind, x.ran(0, 1), before + 3);
            for (int i = 0; i < 3; i++) {
                SHEET.due("what stays under kind " + kind, x.out(0, before + i, 1), 23 - i);
            }
        }
    }

    private static void instructionsAtMost() {
        SHEET.sentence("11: n instructions at most");
        SecretLoom x = Code.loom(Code.PUSH, 1, Code.STORE, 0, Code.PUSH, 2, Code.STORE, 1, Code.HALT, 0);
        int[] first = {0, 1, 1, 1, 1, 1};
        int[] second = {0, 0, 0, 2, 2, 2};
        for (int n = 1; n <= 6; n++) {
            x.let(0, 0, 0);
            x.let(0, 1, 0);
            SHEET.due("run(0, " + n + ")", x.run(0, n), Math.min(n, 5));
            SHEET.due("memory(0, 0) after " + n, x.memory(0, 0), first[n - 1]);
            SHEET.due("memory(0, 1) after " + n, x.memory(0, 1), second[n - 1]);
        }
    }

    private static void haltCountsToo() {
        SHEET.sentence("11: how many were done, HALT too");
        SecretLoom x = Code.loom(Code.HALT, 0);
        SHEET.due("run(0, 1) of a HALT", x.run(0, 1), 1);
        SHEET.due("run(0, 2) of a HALT", x.run(0, 2), 1);
        SHEET.due("run(0, 10000) of a HALT", x.run(0, 10_000), 1);
        Code.load(x, Code.jumps(63, Code.HALT, 0));
        SHEET.due("run(0, 63) of 64", x.run(0, 63), 63);
        SHEET.due("run(0, 64) of 64", x.run(0, 64), 64);
        SHEET.due("run(0, 65) of 64", x.run(0, 65), 64);
    }

    private static void tenThousandIfMore() {
        SHEET.sentence("11: 10,000, if n is more");
        SecretLoom x = Code.loom(COUNT_OUT);
        int[] most = {9_999, 10_000, 10_001, 20_000, 1 << 16, Integer.MAX_VALUE};
        int[] done = {9_999, 10_000, 10_000, 10_000, 10_000, 10_000};
        for (int i = 0; i < most.length; i++) {
            x.let(0, 0, 0);
            SHEET.due("run(0, " + most[i] + ")", x.run(0, most[i]), done[i]);
            // 1,428 rounds are 9,996 instructions, and the next STORE is the last of 10,000.
            SHEET.due("memory(0, 0) after " + most[i], x.memory(0, 0), most[i] < 10_000 ? 1_428 : 1_429);
            SHEET.due("ran(0, 1) after " + most[i], x.ran(0, 1), 1_428);
        }
    }

    private static void haltAtTheTenThousandth() {
        SHEET.sentence("11: 10,000, if n is more");
        // 1,428 rounds and two more: 9,998. The HALT is then the 9,999th, the 10,000th or the 10,001st.
        int[][] ends = {{Code.HALT, 0}, {Code.JUMP, 8, Code.HALT, 0}, {Code.JUMP, 8, Code.JUMP, 9, Code.HALT, 0}};
        int[] done = {9_999, 10_000, 10_000};
        int[] halted = {1, 1, 0};
        for (int i = 0; i < ends.length; i++) {
            for (int n : new int[] {10_000, 10_001, Integer.MAX_VALUE}) {
                SecretLoom x = Code.loom(Code.join(COUNT_DOWN, ends[i]));
                x.let(1, 0, 1_428);
                SHEET.due("run(1, " + n + ") with end " + i, x.run(1, n), done[i]);
                SHEET.due("ran(1, 0) of " + n + " with end " + i, x.ran(1, 0), halted[i]);
            }
        }
    }

    private static void belowOne() {
        SHEET.sentence("11: n below 1: 0");
        for (int n : new int[] {0, -1, -10_000, Integer.MIN_VALUE}) {
            SecretLoom x = Code.loom(Code.PUSH, 1, Code.STORE, 0, Code.HALT, 0);
            SHEET.due("run(0, " + n + ")", x.run(0, n), 0);
            SHEET.due("memory(0, 0)", x.memory(0, 0), 0);
        }
        SHEET.due("run(0, 1)", Code.loom(Code.HALT, 0).run(0, 1), 1);
    }

    private static void belowOneIsTheLatest() {
        SHEET.sentence("11: and that is the latest run");
        for (int n : new int[] {0, -1, Integer.MIN_VALUE}) {
            for (int m = 0; m < 2; m++) {
                SecretLoom x = Busy.loom();
                SHEET.due("ran of the run before", x.ran(m, 0), 1);
                x.run(m, n);
                SHEET.due("ran(" + m + ", 0) after run with " + n, x.ran(m, 0), 0);
                SHEET.due("ran(" + m + ", 1) after run with " + n, x.ran(m, 1), 0);
                SHEET.due("out(" + m + ", 0, 0)", x.out(m, 0, 0), 0);
                SHEET.due("out(" + m + ", 0, 1)", x.out(m, 0, 1), 0);
                SHEET.due("same(3)", x.same(3), -1);
                SHEET.due("ran of the other", x.ran(1 - m, 0), 1);
            }
        }
        SecretLoom x = Code.loom(Code.HALT, 0);
        x.run(0, 0);
        SHEET.due("ran(0, 0), run with 0 as the first", x.ran(0, 0), 0);
        SHEET.due("ran(1, 0), never run", x.ran(1, 0), -1);
    }

    private static void notWellFormed() {
        SHEET.sentence("11: NONE, and nothing happens, if it is not well formed");
        int[][] codes = {
            {},
            {Code.PUSH, 1, Code.STORE, 0},
            {Code.PUSH, 1, Code.OUT, 0, Code.STORE, 0, Code.HALT, 0},
            {Code.PUSH, 1, Code.STORE, 0, Code.PUSH, 1, Code.IFZERO, 5, Code.HALT, 0},
            Code.times(17, Code.PUSH, 0, Code.HALT, 0),
        };
        for (int[] code : codes) {
            SecretLoom x = Busy.loom();
            Code.load(x, code);
            int[] before = Busy.seen(x);
            for (int n : new int[] {Integer.MIN_VALUE, 0, 1, 2, 10_000, Integer.MAX_VALUE}) {
                SHEET.due("run(0, " + n + ")", x.run(0, n), -1);
                SHEET.due("run(1, " + n + ")", x.run(1, n), -1);
            }
            SHEET.due("answers after runs refused", Busy.seen(x), before);
        }
        SecretLoom y = Code.loom(Code.PUSH, 1);
        y.run(0, 5);
        SHEET.due("ran(0, 0), refused as the first", y.ran(0, 0), -1);
    }

    private static void noSuchMemory() {
        SHEET.sentence("11: or there is no such memory");
        for (int m : Code.outside(2)) {
            Busy.refused(SHEET, "run(" + m + ", 50)", -1, x -> x.run(m, 50));
            Busy.refused(SHEET, "run(" + m + ", 0)", -1, x -> x.run(m, 0));
            SecretLoom y = Code.loom(Code.HALT, 0);
            y.run(m, 5);
            SHEET.due("ran(0, 0) after run(" + m + ", 5)", y.ran(0, 0), -1);
            SHEET.due("ran(1, 0) after run(" + m + ", 5)", y.ran(1, 0), -1);
        }
    }

    private static void cameToAHalt() {
        SHEET.sentence("12: what 0: 1 if it came to a HALT, else 0");
        SecretLoom x = Code.loom(Code.JUMP, 1, Code.JUMP, 2, Code.HALT, 0);
        int[] halted = {0, 0, 0, 1, 1};
        for (int n = 0; n < halted.length; n++) {
            x.run(1, n);
            SHEET.due("ran(1, 0) after run(1, " + n + ")", x.ran(1, 0), halted[n]);
        }
        Code.load(x, Code.JUMP, 0);
        SHEET.due("ran(1, 0), with another program now", x.ran(1, 0), 1);
        x.run(1, 10_000);
        SHEET.due("ran(1, 0) without end", x.ran(1, 0), 0);
    }

    private static void howManyCameOut() {
        SHEET.sentence("12: 1: how many ints came out");
        SecretLoom x = Code.loom(COUNT_OUT);
        int[] counts = {0, 1, 2, 63, 64, 65, 66, 1_428};
        for (int count : counts) {
            // Six of seven instructions of the last round are enough.
            x.run(0, 7 * count - 1);
            SHEET.due("ran(0, 1) of " + count, x.ran(0, 1), count);
            x.run(0, 7 * count + 5);
            SHEET.due("ran(0, 1) of " + count + " and 5 instructions", x.ran(0, 1), Math.min(count, 1_428));
        }
    }

    private static void thereWasNone() {
        SHEET.sentence("12: NONE if there was none");
        SecretLoom x = Code.loom(Code.HALT, 0);
        SHEET.due("ran(0, 0) at first", x.ran(0, 0), -1);
        SHEET.due("ran(0, 1) at first", x.ran(0, 1), -1);
        x.run(1, 1);
        SHEET.due("ran(0, 0), the other run alone", x.ran(0, 0), -1);
        SHEET.due("ran(0, 1), the other run alone", x.ran(0, 1), -1);
        SHEET.due("ran(1, 0)", x.ran(1, 0), 1);
        SHEET.due("ran(1, 1)", x.ran(1, 1), 0);
        SecretLoom y = Busy.loom();
        for (int m : Code.outside(2)) {
            SHEET.due("ran(" + m + ", 0)", y.ran(m, 0), -1);
            SHEET.due("ran(" + m + ", 1)", y.ran(m, 1), -1);
        }
    }

    private static void forAnotherWhat() {
        SHEET.sentence("12: or for another what");
        SecretLoom x = Busy.loom();
        for (int what : Code.outside(2)) {
            SHEET.due("ran(0, " + what + ")", x.ran(0, what), -1);
            SHEET.due("ran(1, " + what + ")", x.ran(1, what), -1);
        }
        SHEET.due("ran(0, 0)", x.ran(0, 0), 1);
        SHEET.due("ran(0, 1)", x.ran(0, 1), 2);
    }

    private static void theIthFromZeroOn() {
        SHEET.sentence("13: Of the i-th int that came out then, from 0 on");
        SecretLoom x = Code.loom(Code.PUSH, 7, Code.OUT, 3, Code.PUSH, -8, Code.OUT, 0, Code.PUSH, Integer.MIN_VALUE,
                Code.OUT, 1, Code.HALT, 0);
        x.run(1, 50);
        int[] channels = {3, 0, 1};
        int[] ints = {7, -8, Integer.MIN_VALUE};
        for (int i = 0; i < 3; i++) {
            SHEET.due("out(1, " + i + ", 0)", x.out(1, i, 0), channels[i]);
            SHEET.due("out(1, " + i + ", 1)", x.out(1, i, 1), ints[i]);
        }
    }

    private static void theFirstSixtyFourAlone() {
        SHEET.sentence("13: the first 64 alone");
        for (int count : new int[] {62, 63, 64, 65, 128, 1_428}) {
            SecretLoom x = Code.loom(COUNT_OUT);
            x.run(0, 7 * count);
            for (int i : new int[] {0, 61, 62, 63, 64, 65, 127, 128}) {
                boolean kept = i < count && i < 64;
                SHEET.due("out(0, " + i + ", 0) of " + count, x.out(0, i, 0), kept ? 3 : 0);
                SHEET.due("out(0, " + i + ", 1) of " + count, x.out(0, i, 1), kept ? i + 1 : 0);
            }
        }
    }

    private static void outOfNoneSuch() {
        SHEET.sentence("13: 0 if there is none such");
        SecretLoom x = Code.loom(Code.PUSH, 7, Code.OUT, 3, Code.PUSH, 8, Code.OUT, 2, Code.HALT, 0);
        SHEET.due("out(0, 0, 0) before a run", x.out(0, 0, 0), 0);
        SHEET.due("out(0, 0, 1) before a run", x.out(0, 0, 1), 0);
        x.run(0, 50);
        for (int what = 0; what < 2; what++) {
            SHEET.due("out(1, 0, " + what + "), not run", x.out(1, 0, what), 0);
            for (int bad : Code.outside(2)) {
                SHEET.due("out(0, " + bad + ", " + what + ")", x.out(0, bad, what), 0);
                SHEET.due("out(" + bad + ", 0, " + what + ")", x.out(bad, 0, what), 0);
            }
        }
        for (int bad : Code.outside(2)) {
            SHEET.due("out(0, 0, " + bad + ")", x.out(0, 0, bad), 0);
            SHEET.due("out(0, 1, " + bad + ")", x.out(0, 1, bad), 0);
        }
        SHEET.due("out(0, 1, 0)", x.out(0, 1, 0), 2);
        SHEET.due("out(0, 1, 1)", x.out(0, 1, 1), 8);
    }

    private static void outOfTheLatestAlone() {
        SHEET.sentence("13: Of the i-th int that came out then");
        SecretLoom x = Code.loom(COUNT_OUT);
        x.run(0, 700);
        SHEET.due("out(0, 63, 1) of the longer run", x.out(0, 63, 1), 64);
        x.run(0, 14);
        SHEET.due("out(0, 1, 1) of the shorter run", x.out(0, 1, 1), 102);
        SHEET.due("out(0, 2, 1) of the shorter run", x.out(0, 2, 1), 0);
        SHEET.due("out(0, 2, 0) of the shorter run", x.out(0, 2, 0), 0);
        SHEET.due("out(0, 63, 1) of the shorter run", x.out(0, 63, 1), 0);
    }
}
