import java.util.ArrayList;
import java.util.List;

/** Makes programs that are well formed and jump about, from dice. */
final class Maker {
    private static final int[] TAKES = {0, 0, 1, 2, 0, 1, 1, 2, 1, 0};
    private static final int[] PUTS = {1, 1, 0, 1, 0, 0, 1, 0, 0, 0};

    /** Rarely a HALT and often what makes programs tell: else most end before they do anything. */
    private static final int[] OFTEN = {
        Code.PUSH, Code.PUSH, Code.LOAD, Code.LOAD, Code.LOAD, Code.LOAD, Code.STORE, Code.STORE, Code.DO, Code.DO,
        Code.IFZERO, Code.IFZERO, Code.IFZERO, Code.GET, Code.GET, Code.LAY, Code.OUT, Code.OUT, Code.OUT, Code.JUMP
    };

    private final Dice dice;

    Maker(Dice dice) {
        this.dice = dice;
    }

    /** Kinds and numbers in turn. */
    int[] wellFormed(int size, int highest) {
        int[] kinds = new int[size];
        int[] heights = new int[size + 1];
        for (int place = 0; place < size; place++) {
            kinds[place] = place == size - 1 ? Code.HALT : kindFor(heights[place], highest);
            boolean ends = kinds[place] == Code.JUMP || kinds[place] == Code.HALT;
            heights[place + 1] = ends && dice.oneIn(2)
                    ? dice.below(3)
                    : heights[place] - TAKES[kinds[place]] + PUTS[kinds[place]];
        }
        int[] code = new int[2 * size];
        for (int place = 0; place < size; place++) {
            code[2 * place] = kinds[place];
            code[2 * place + 1] = numberFor(kinds[place]);
        }
        for (int place = 0; place < size; place++) {
            aim(code, place, heights, size);
        }
        return code;
    }

    private int kindFor(int height, int highest) {
        for (int thrown = 0; thrown < 1000; thrown++) {
            int kind = dice.oneIn(25) ? Code.HALT : OFTEN[dice.below(OFTEN.length)];
            int left = height - TAKES[kind];
            if (left >= 0 && left + PUTS[kind] <= highest) {
                return kind;
            }
        }
        return Code.HALT;
    }

    private int numberFor(int kind) {
        int[] bounds = {0, 8, 8, 7, 0, 0, 2, 2, 4, 0};
        return bounds[kind] == 0 ? dice.anyInt() : dice.below(bounds[kind]);
    }

    private void aim(int[] code, int place, int[] heights, int size) {
        int kind = code[2 * place];
        if (kind != Code.JUMP && kind != Code.IFZERO) {
            return;
        }
        List<Integer> fitting = new ArrayList<>();
        for (int target = 0; target < size; target++) {
            if (heights[target] == heights[place] - TAKES[kind]) {
                fitting.add(target);
            }
        }
        if (fitting.isEmpty()) {
            code[2 * place] = Code.HALT;
            code[2 * place + 1] = 0;
        } else {
            code[2 * place + 1] = fitting.get(dice.below(fitting.size()));
        }
    }
}
