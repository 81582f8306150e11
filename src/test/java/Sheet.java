import java.util.Arrays;

/** Keeps what is wrong, for a test that prints it and then ends with exit code 1. */
final class Sheet {
    private static final int MOST_PRINTED = 40;

    private final String test;
    private String sentence = "";
    private int askedBefore;
    private int asked;
    private int wrong;

    Sheet(String test) {
        this.test = test;
    }

    /** What is asked from here on is asked by these words of the document. */
    void sentence(String words) {
        lookWhetherAsked();
        sentence = words;
        askedBefore = asked;
    }

    void due(String call, long got, long want) {
        asked++;
        if (got != want) {
            tell(call + " answered " + got + ", due is " + want);
        }
    }

    void due(String call, boolean got, boolean want) {
        asked++;
        if (got != want) {
            tell(call + " answered " + got + ", due is " + want);
        }
    }

    void due(String call, int[] got, int[] want) {
        asked++;
        if (!Arrays.equals(got, want)) {
            tell(call + " are " + Arrays.toString(got) + ", due is " + Arrays.toString(want));
        }
    }

    void tell(String fault) {
        wrong++;
        if (wrong <= MOST_PRINTED) {
            System.out.println(test + (sentence.isEmpty() ? "" : ", \"" + sentence + "\"") + ": " + fault);
        }
    }

    private void lookWhetherAsked() {
        if (!sentence.isEmpty() && asked == askedBefore) {
            tell("nothing was asked");
        }
    }

    boolean isFull() {
        return wrong >= MOST_PRINTED;
    }

    void end() {
        lookWhetherAsked();
        if (asked == 0) {
            tell("nothing was asked");
        }
        System.out.println(wrong == 0 ? asked + " answers are as due" : wrong + " answers are not as due");
        if (wrong != 0) {
            System.exit(1);
        }
    }
}
