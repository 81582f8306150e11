import java.util.ArrayDeque;
import java.util.ArrayList;
import java.util.Arrays;
import java.util.Deque;
import java.util.List;

/**
 * The document once more, without regard to cost: each answer is worked out anew from the words of
 * the terms. It shares no code and no ways of working with SecretLoom, so that both can be compared.
 */
final class PlainLoom {
    private static final int[] NUMBERS = {-1, 8, 8, 7, 64, 64, 2, 2, 4, -1};

    private final List<int[]> program = new ArrayList<>();
    private final int[][] levels = {new int[8], new int[2], new int[4]};
    private final int[][] variables = new int[2][8];
    private final int[][][] arrays = new int[2][2][8];
    private final List<List<int[]>> rows = new ArrayList<>(Arrays.asList(null, null));
    private final boolean[] halted = new boolean[2];

    int instruction(int kind, int number) {
        if (program.size() == 64 || kind < 0 || kind > 9) {
            return -1;
        }
        if (NUMBERS[kind] >= 0 && (number < 0 || number >= NUMBERS[kind])) {
            return -1;
        }
        program.add(new int[] {kind, number});
        return program.size() - 1;
    }

    void clear() {
        program.clear();
    }

    boolean level(int what, int k, int level) {
        if (what < 0 || what > 2 || k < 0 || k >= levels[what].length || level < 0 || level > 3) {
            return false;
        }
        levels[what][k] = level;
        return true;
    }

    int check() {
        if (!isWellFormed()) {
            return -1;
        }
        Typed typed = new Typed();
        for (int place = 0; place < program.size(); place++) {
            if (typed.piles[place] != null && !isSafe(typed, place)) {
                return place + 1;
            }
        }
        return 0;
    }

    int surrounding(int place) {
        if (!isWellFormed() || !isMet(place)) {
            return -1;
        }
        return new Typed().surroundings[place];
    }

    int pile(int place, int i) {
        if (!isWellFormed() || !isMet(place)) {
            return -1;
        }
        int[] pile = new Typed().piles[place];
        return i >= 0 && i < pile.length ? pile[i] : -1;
    }

    int junction(int place) {
        if (!isWellFormed() || !isMet(place) || kind(place) != Code.IFZERO) {
            return -1;
        }
        return junctionOf(place);
    }

    boolean let(int m, int x, int v) {
        if (m < 0 || m > 1 || x < 0 || x > 7) {
            return false;
        }
        variables[m][x] = v;
        return true;
    }

    boolean lay(int m, int array, int i, int v) {
        if (m < 0 || m > 1 || array < 0 || array > 1 || i < 0 || i > 7) {
            return false;
        }
        arrays[m][array][i] = v;
        return true;
    }

    int run(int m, int n) {
        if (m < 0 || m > 1 || !isWellFormed()) {
            return -1;
        }
        List<int[]> row = new ArrayList<>();
        rows.set(m, row);
        halted[m] = false;
        Deque<Integer> pile = new ArrayDeque<>();
        int place = 0;
        int done = 0;
        while (done < n && done < 10_000 && !halted[m]) {
            done++;
            place = step(place, pile, m, row);
        }
        return done;
    }

    int ran(int m, int what) {
        if (m < 0 || m > 1 || rows.get(m) == null || what < 0 || what > 1) {
            return -1;
        }
        return what == 1 ? rows.get(m).size() : halted[m] ? 1 : 0;
    }

    int out(int m, int i, int what) {
        if (m < 0 || m > 1 || rows.get(m) == null || what < 0 || what > 1) {
            return 0;
        }
        return i < 0 || i > 63 || i >= rows.get(m).size() ? 0 : rows.get(m).get(i)[what];
    }

    int same(int level) {
        if (level < 0 || level > 3 || !halted[0] || !halted[1]) {
            return -1;
        }
        return seen(0, level).equals(seen(1, level)) ? 1 : 0;
    }

    int memory(int m, int what) {
        if (m < 0 || m > 1 || what < 0 || what > 23) {
            return 0;
        }
        return what < 8 ? variables[m][what] : arrays[m][what / 8 - 1][what % 8];
    }

    private List<String> seen(int m, int level) {
        List<String> seen = new ArrayList<>();
        for (int i = 0; i < rows.get(m).size() && i < 64; i++) {
            int[] one = rows.get(m).get(i);
            if ((levels[2][one[0]] | level) == level) {
                seen.add(one[0] + ":" + one[1]);
            }
        }
        return seen;
    }

    private int step(int place, Deque<Integer> pile, int m, List<int[]> row) {
        int number = program.get(place)[1];
        int kind = kind(place);
        if (kind == Code.PUSH) {
            pile.push(number);
        } else if (kind == Code.LOAD) {
            pile.push(variables[m][number]);
        } else if (kind == Code.STORE) {
            variables[m][number] = pile.pop();
        } else if (kind == Code.DO) {
            int b = pile.pop();
            int a = pile.pop();
            pile.push(new int[] {a + b, a - b, a * b, a < b ? 1 : 0, a == b ? 1 : 0, a & b, a | b}[number]);
        } else if (kind == Code.JUMP) {
            return number;
        } else if (kind == Code.IFZERO) {
            return pile.pop() == 0 ? number : place + 1;
        } else if (kind == Code.GET) {
            pile.push(arrays[m][number][((pile.pop() % 8) + 8) % 8]);
        } else if (kind == Code.LAY) {
            int value = pile.pop();
            arrays[m][number][((pile.pop() % 8) + 8) % 8] = value;
        } else if (kind == Code.OUT) {
            row.add(new int[] {number, pile.pop()});
        } else {
            halted[m] = true;
        }
        return place + 1;
    }

    private int kind(int place) {
        return program.get(place)[0];
    }

    private List<Integer> followers(int place) {
        switch (kind(place)) {
            case Code.JUMP:
                return List.of(program.get(place)[1]);
            case Code.IFZERO:
                return List.of(place + 1, program.get(place)[1]);
            case Code.HALT:
                return List.of();
            default:
                return List.of(place + 1);
        }
    }

    /** Every pair of a place and a number of ints on the pile that some way comes to, by flooding. */
    private boolean[][] states() {
        boolean[][] there = new boolean[65][20];
        if (program.isEmpty()) {
            return null;
        }
        Deque<int[]> open = new ArrayDeque<>();
        open.add(new int[] {0, 0});
        while (!open.isEmpty()) {
            int[] state = open.remove();
            if (state[0] >= program.size()) {
                return null;
            }
            if (there[state[0]][state[1]]) {
                continue;
            }
            there[state[0]][state[1]] = true;
            int left = state[1] - takes(kind(state[0]));
            int height = left + (puts(kind(state[0])) ? 1 : 0);
            if (left < 0 || height > 16) {
                return null;
            }
            for (int next : followers(state[0])) {
                open.add(new int[] {next, height});
            }
        }
        return there;
    }

    private static int takes(int kind) {
        switch (kind) {
            case Code.DO:
            case Code.LAY:
                return 2;
            case Code.STORE:
            case Code.IFZERO:
            case Code.GET:
            case Code.OUT:
                return 1;
            default:
                return 0;
        }
    }

    private static boolean puts(int kind) {
        return kind == Code.PUSH || kind == Code.LOAD || kind == Code.DO || kind == Code.GET;
    }

    private boolean isWellFormed() {
        boolean[][] there = states();
        if (there == null) {
            return false;
        }
        for (boolean[] heights : there) {
            int count = 0;
            for (boolean height : heights) {
                count += height ? 1 : 0;
            }
            if (count > 1) {
                return false;
            }
        }
        return true;
    }

    private boolean isMet(int place) {
        return place >= 0 && place < program.size() && heightOf(states(), place) >= 0;
    }

    private static int heightOf(boolean[][] there, int place) {
        for (int height = 0; height < there[place].length; height++) {
            if (there[place][height]) {
                return height;
            }
        }
        return -1;
    }

    /** Whether there is a way from a place, behind the HALT itself too, to there, that shuns one. */
    private boolean canHalt(int from, int shunned) {
        int behind = program.size();
        boolean[] been = new boolean[behind + 1];
        Deque<Integer> open = new ArrayDeque<>();
        open.add(from);
        while (!open.isEmpty()) {
            int place = open.remove();
            if (place == shunned || been[place]) {
                continue;
            }
            been[place] = true;
            if (place == behind) {
                return true;
            }
            open.addAll(kind(place) == Code.HALT ? List.of(behind) : followers(place));
        }
        return false;
    }

    private int junctionOf(int place) {
        if (!canHalt(place, -1)) {
            return -1;
        }
        List<Integer> onEveryWay = new ArrayList<>();
        for (int other = 0; other <= program.size(); other++) {
            if (other != place && isOnEveryWay(other, place)) {
                onEveryWay.add(other);
            }
        }
        int found = -2;
        for (int one : onEveryWay) {
            boolean nearest = true;
            for (int other : onEveryWay) {
                nearest &= other == one || isOnEveryWay(other, one);
            }
            if (nearest) {
                if (found != -2) {
                    throw new IllegalStateException("two nearest ones");
                }
                found = one;
            }
        }
        return found;
    }

    private boolean isOnEveryWay(int other, int from) {
        // A place that is not met or cannot halt is on no way, and shunning it changes nothing.
        return !canHalt(from, other);
    }

    private boolean[] regionOf(int place) {
        int junction = junctionOf(place);
        boolean[] region = new boolean[program.size()];
        Deque<Integer> open = new ArrayDeque<>(followers(place));
        while (!open.isEmpty()) {
            int next = open.remove();
            if (next != junction && !region[next]) {
                region[next] = true;
                open.addAll(followers(next));
            }
        }
        return region;
    }

    private boolean isSafe(Typed typed, int place) {
        int number = program.get(place)[1];
        int[] pile = typed.piles[place];
        int kind = kind(place);
        int all = typed.surroundings[place];
        for (int i = 0; i < takes(kind); i++) {
            all |= pile[pile.length - 1 - i];
        }
        int row = kind == Code.STORE ? 0 : kind == Code.LAY ? 1 : kind == Code.OUT ? 2 : -1;
        return row < 0 || (all | levels[row][number]) == levels[row][number];
    }

    /** The types of a well formed program: raised where a rule does not hold, till all hold. */
    private final class Typed {
        private final int[] surroundings = new int[program.size()];
        private final int[][] piles = new int[program.size()][];
        private final boolean[][] regions = new boolean[program.size()][];
        private boolean raised;

        Typed() {
            boolean[][] there = states();
            for (int place = 0; place < program.size(); place++) {
                int height = heightOf(there, place);
                piles[place] = height < 0 ? null : new int[height];
                if (height >= 0 && kind(place) == Code.IFZERO) {
                    regions[place] = regionOf(place);
                }
            }
            raised = true;
            while (raised) {
                raised = false;
                for (int place = program.size() - 1; place >= 0; place--) {
                    if (piles[place] != null) {
                        raiseBehind(place);
                    }
                }
            }
        }

        private void raiseBehind(int place) {
            int[] left = left(place);
            for (int next : followers(place)) {
                for (int i = 0; i < left.length; i++) {
                    int more = piles[next][i] | left[i];
                    raised |= more != piles[next][i];
                    piles[next][i] = more;
                }
            }
            for (int other = 0; regions[place] != null && other < program.size(); other++) {
                int more = surroundings[other] | piles[place][piles[place].length - 1];
                if (regions[place][other] && more != surroundings[other]) {
                    surroundings[other] = more;
                    raised = true;
                }
            }
        }

        private int[] left(int place) {
            int[] pile = piles[place];
            int number = program.get(place)[1];
            int here = surroundings[place];
            int top = pile.length - 1;
            switch (kind(place)) {
                case Code.PUSH:
                    return with(pile, pile.length, here);
                case Code.LOAD:
                    return with(pile, pile.length, here | levels[0][number]);
                case Code.DO:
                    return with(pile, top - 1, here | pile[top] | pile[top - 1]);
                case Code.GET:
                    return with(pile, top, here | pile[top] | levels[1][number]);
                case Code.STORE:
                case Code.OUT:
                    return Arrays.copyOf(pile, top);
                case Code.LAY:
                    return Arrays.copyOf(pile, top - 1);
                case Code.IFZERO:
                    int[] left = Arrays.copyOf(pile, top);
                    for (int i = 0; i < top; i++) {
                        left[i] |= pile[top];
                    }
                    return left;
                default:
                    return pile;
            }
        }

        private int[] with(int[] pile, int kept, int put) {
            int[] left = Arrays.copyOf(pile, kept + 1);
            left[kept] = put;
            return left;
        }
    }
}
