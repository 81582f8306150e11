import java.util.Arrays;

/**
 * Programs of a small machine are checked, whether what comes out of them on a channel can depend
 * on what its readers must not know; and run, also twice side by side, to compare what comes out.
 */
public final class SecretLoom {
    public static final int NONE = -1;

    private static final int MOST_INSTRUCTIONS = 64;
    private static final int MOST_ON_PILE = 16;
    private static final int MOST_STEPS = 10_000;
    private static final int MOST_KEPT = 64;

    private static final int LEVELS = 4;
    private static final int OWNER_ONE = 1;
    private static final int OWNER_TWO = 2;

    private static final int VARIABLES = 8;
    private static final int ARRAYS = 2;
    private static final int ARRAY_LENGTH = 8;
    private static final int CHANNELS = 4;
    private static final int MEMORIES = 2;

    private static final int PUSH = 0;
    private static final int LOAD = 1;
    private static final int STORE = 2;
    private static final int DO = 3;
    private static final int JUMP = 4;
    private static final int IFZERO = 5;
    private static final int GET = 6;
    private static final int LAY = 7;
    private static final int OUT = 8;
    private static final int HALT = 9;
    private static final int KINDS = 10;

    private static final int ANY_NUMBER = 0;

    /** By kind: how many numbers, from 0 on, it can have. */
    private static final int[] NUMBERS = {ANY_NUMBER, 8, 8, 7, 64, 64, 2, 2, 4, ANY_NUMBER};
    /** By kind: how many ints it takes from the pile, and how many it puts there. */
    private static final int[] TAKES = {0, 0, 1, 2, 0, 1, 1, 2, 1, 0};
    private static final int[] PUTS = {1, 1, 0, 1, 0, 0, 1, 0, 0, 0};

    private final Program program;
    private final Levels levels;
    private final Shape shape;
    private final Junctions junctions;
    private final Types types;
    private final Machine machine;
    private final Memory[] memories;
    private final Outcome[] latest;
    private boolean shapeIsOld;
    private boolean typesAreOld;

    public SecretLoom() {
        program = new Program();
        levels = new Levels();
        shape = new Shape(program);
        junctions = new Junctions(program, shape);
        types = new Types(program, levels, shape, junctions);
        machine = new Machine(program);
        memories = new Memory[MEMORIES];
        latest = new Outcome[MEMORIES];
        for (int m = 0; m < MEMORIES; m++) {
            memories[m] = new Memory();
            latest[m] = new Outcome();
        }
        shapeIsOld = true;
        typesAreOld = true;
    }

    public int instruction(int kind, int number) {
        int place = program.add(kind, number);
        if (place != NONE) {
            shapeIsOld = true;
        }
        return place;
    }

    public void clear() {
        program.removeAll();
        shapeIsOld = true;
    }

    public boolean level(int what, int k, int level) {
        if (!levels.set(what, k, level)) {
            return false;
        }
        typesAreOld = true;
        return true;
    }

    public int check() {
        return isWellFormed() ? typesNow().firstUnsafe() + 1 : NONE;
    }

    public int surrounding(int place) {
        return isWellFormed() && shape.isMet(place) ? typesNow().surroundingAt(place) : NONE;
    }

    public int pile(int place, int i) {
        if (!isWellFormed() || !isBetween(i, shape.heightAt(place))) {
            return NONE;
        }
        return typesNow().levelOnPile(place, i);
    }

    public int junction(int place) {
        return isWellFormed() && shape.isMet(place) ? junctions.at(place) : NONE;
    }

    public boolean let(int m, int x, int v) {
        if (!isMemory(m) || !isBetween(x, VARIABLES)) {
            return false;
        }
        memories[m].set(x, v);
        return true;
    }

    public boolean lay(int m, int array, int i, int v) {
        if (!isMemory(m) || !isBetween(array, ARRAYS) || !isBetween(i, ARRAY_LENGTH)) {
            return false;
        }
        memories[m].set(Memory.cellOf(array, i), v);
        return true;
    }

    public int run(int m, int n) {
        if (!isMemory(m) || !isWellFormed()) {
            return NONE;
        }
        return machine.work(memories[m], latest[m], Math.min(n, MOST_STEPS));
    }

    public int ran(int m, int what) {
        if (!isMemory(m) || !latest[m].isThere()) {
            return NONE;
        }
        switch (what) {
            case 0:
                return latest[m].isHalted() ? 1 : 0;
            case 1:
                return latest[m].count();
            default:
                return NONE;
        }
    }

    public int out(int m, int i, int what) {
        if (!isMemory(m) || !isBetween(i, latest[m].kept())) {
            return 0;
        }
        switch (what) {
            case 0:
                return latest[m].channelAt(i);
            case 1:
                return latest[m].intAt(i);
            default:
                return 0;
        }
    }

    public int same(int level) {
        if (!isBetween(level, LEVELS) || !latest[0].isHalted() || !latest[1].isHalted()) {
            return NONE;
        }
        return rowsAgree(level) ? 1 : 0;
    }

    public int memory(int m, int what) {
        return isMemory(m) ? memories[m].get(what) : 0;
    }

    private boolean isWellFormed() {
        if (shapeIsOld) {
            shape.find();
            if (shape.isWellFormed()) {
                junctions.find();
            }
            shapeIsOld = false;
            typesAreOld = true;
        }
        return shape.isWellFormed();
    }

    /** Of a program that is well formed alone. */
    private Types typesNow() {
        if (typesAreOld) {
            types.find();
            typesAreOld = false;
        }
        return types;
    }

    private boolean rowsAgree(int level) {
        int i = latest[0].nextSeen(0, level, levels);
        int j = latest[1].nextSeen(0, level, levels);
        for (int step = 0; step < MOST_KEPT && i != NONE && j != NONE; step++) {
            if (!latest[0].isAlike(i, latest[1], j)) {
                return false;
            }
            i = latest[0].nextSeen(i + 1, level, levels);
            j = latest[1].nextSeen(j + 1, level, levels);
        }
        return i == NONE && j == NONE;
    }

    private static boolean isMemory(int m) {
        return isBetween(m, MEMORIES);
    }

    private static boolean isBetween(int x, int bound) {
        return x >= 0 && x < bound;
    }

    private static boolean isBelow(int level, int other) {
        return (level & ~other) == 0;
    }

    // Sets of places are longs, a bit for each of the 64 places: what is no place has no bit.

    private static long bit(int place) {
        return place >= 0 && place < MOST_INSTRUCTIONS ? 1L << place : 0L;
    }

    private static boolean holds(long set, int place) {
        return place >= 0 && place < MOST_INSTRUCTIONS && (set >>> place & 1L) != 0L;
    }

    private static int lowest(long set) {
        return Long.bitCount((set & -set) - 1L);
    }

    private static final class Program {
        private final int[] kinds = new int[MOST_INSTRUCTIONS];
        private final int[] numbers = new int[MOST_INSTRUCTIONS];
        private int size;

        int size() {
            return size;
        }

        boolean has(int place) {
            return place >= 0 && place < size;
        }

        int kindAt(int place) {
            return has(place) ? kinds[place] : HALT;
        }

        int numberAt(int place) {
            return has(place) ? numbers[place] : 0;
        }

        int add(int kind, int number) {
            if (size >= MOST_INSTRUCTIONS || !canBe(kind, number)) {
                return NONE;
            }
            kinds[size] = kind;
            numbers[size] = number;
            size++;
            return size - 1;
        }

        void removeAll() {
            size = 0;
        }

        /** The follower that is come to without a jump, or by a jump that is always made. */
        int plainFollower(int place) {
            switch (kindAt(place)) {
                case HALT:
                    return NONE;
                case JUMP:
                    return numberAt(place);
                default:
                    return place + 1;
            }
        }

        /** The follower that is come to by a jump that is made at times. */
        int otherFollower(int place) {
            return kindAt(place) == IFZERO ? numberAt(place) : NONE;
        }

        private static boolean canBe(int kind, int number) {
            if (!isBetween(kind, KINDS)) {
                return false;
            }
            return NUMBERS[kind] == ANY_NUMBER || isBetween(number, NUMBERS[kind]);
        }
    }

    private static final class Levels {
        private final int[] ofVariables = new int[VARIABLES];
        private final int[] ofArrays = new int[ARRAYS];
        private final int[] ofChannels = new int[CHANNELS];

        boolean set(int what, int k, int level) {
            switch (what) {
                case 0:
                    return setIn(ofVariables, k, level);
                case 1:
                    return setIn(ofArrays, k, level);
                case 2:
                    return setIn(ofChannels, k, level);
                default:
                    return false;
            }
        }

        int ofVariable(int x) {
            return isBetween(x, VARIABLES) ? ofVariables[x] : 0;
        }

        int ofArray(int a) {
            return isBetween(a, ARRAYS) ? ofArrays[a] : 0;
        }

        int ofChannel(int c) {
            return isBetween(c, CHANNELS) ? ofChannels[c] : 0;
        }

        private static boolean setIn(int[] row, int k, int level) {
            if (!isBetween(k, row.length) || !isBetween(level, LEVELS)) {
                return false;
            }
            row[k] = level;
            return true;
        }
    }

    /** Which instructions are met, with how many ints on the pile, and whether all is well formed. */
    private static final class Shape {
        private final Program program;
        private final int[] heights = new int[MOST_INSTRUCTIONS];
        private long met;
        private long open;
        private boolean wellFormed;

        Shape(Program program) {
            this.program = program;
        }

        boolean isWellFormed() {
            return wellFormed;
        }

        boolean isMet(int place) {
            return holds(met, place);
        }

        int heightAt(int place) {
            return holds(met, place) ? heights[place] : 0;
        }

        void find() {
            met = 0L;
            open = 0L;
            wellFormed = true;
            comeTo(0, 0);
            // A place is opened once alone, so there are no more rounds than places.
            for (int round = 0; round < MOST_INSTRUCTIONS && wellFormed && open != 0L; round++) {
                int place = lowest(open);
                open &= ~bit(place);
                goOnFrom(place);
            }
        }

        private void goOnFrom(int place) {
            int kind = program.kindAt(place);
            int staying = heights[place] - TAKES[kind];
            int height = staying + PUTS[kind];
            if (staying < 0 || height > MOST_ON_PILE) {
                wellFormed = false;
                return;
            }
            if (kind != HALT) {
                comeTo(program.plainFollower(place), height);
            }
            if (kind == IFZERO) {
                comeTo(program.otherFollower(place), height);
            }
        }

        private void comeTo(int place, int height) {
            if (!program.has(place)) {
                wellFormed = false;
            } else if (!holds(met, place)) {
                met |= bit(place);
                open |= bit(place);
                heights[place] = height;
            } else if (heights[place] != height) {
                wellFormed = false;
            }
        }
    }

    /** The junctions and regions of the IFZEROs of a program that is well formed. */
    private static final class Junctions {
        private final Program program;
        private final Shape shape;
        private final long[] followers = new long[MOST_INSTRUCTIONS];
        private final long[] leaders = new long[MOST_INSTRUCTIONS];
        /** By place: the other places from which every way to a HALT goes over it. */
        private final long[] passing = new long[MOST_INSTRUCTIONS];
        private final int[] junctionAt = new int[MOST_INSTRUCTIONS];
        private final long[] regionAt = new long[MOST_INSTRUCTIONS];
        private long halts;
        private long halting;

        Junctions(Program program, Shape shape) {
            this.program = program;
            this.shape = shape;
        }

        int at(int place) {
            return program.has(place) ? junctionAt[place] : NONE;
        }

        long regionOf(int place) {
            return program.has(place) ? regionAt[place] : 0L;
        }

        void find() {
            findEdges();
            findPassing();
            for (int place = 0; place < program.size(); place++) {
                junctionAt[place] = NONE;
                regionAt[place] = 0L;
                if (shape.isMet(place) && program.kindAt(place) == IFZERO) {
                    junctionAt[place] = nearestFor(place);
                    regionAt[place] = reach(followers[place], followers, ~bit(junctionAt[place]));
                }
            }
        }

        /** Of the instructions that are met alone: from others nothing is ever come to. */
        private void findEdges() {
            Arrays.fill(followers, 0L);
            Arrays.fill(leaders, 0L);
            halts = 0L;
            for (int place = 0; place < program.size(); place++) {
                if (!shape.isMet(place)) {
                    continue;
                }
                if (program.kindAt(place) == HALT) {
                    halts |= bit(place);
                }
                addEdge(place, program.plainFollower(place));
                addEdge(place, program.otherFollower(place));
            }
        }

        private void addEdge(int from, int to) {
            if (program.has(to)) {
                followers[from] |= bit(to);
                leaders[to] |= bit(from);
            }
        }

        private void findPassing() {
            halting = reach(halts, leaders, -1L);
            for (int place = 0; place < program.size(); place++) {
                // Who cannot come to a HALT with this place shut has it on every way.
                long others = ~bit(place);
                passing[place] = halting & others & ~reach(halts, leaders, others);
            }
        }

        private int nearestFor(int place) {
            if (!holds(halting, place)) {
                return NONE;
            }
            long onEveryWay = 0L;
            long beforeTheOthers = -1L;
            for (int other = 0; other < program.size(); other++) {
                if (holds(passing[other], place)) {
                    onEveryWay |= bit(other);
                    beforeTheOthers &= passing[other] | bit(other);
                }
            }
            long nearest = onEveryWay & beforeTheOthers;
            return nearest == 0L ? program.size() : lowest(nearest);
        }

        private static long reach(long start, long[] edges, long allowed) {
            long reached = 0L;
            long open = start & allowed;
            // Each round reaches a place more, so there are no more rounds than places.
            for (int round = 0; round < MOST_INSTRUCTIONS && open != 0L; round++) {
                int place = lowest(open);
                reached |= bit(place);
                open = (open | edges[place]) & allowed & ~reached;
            }
            return reached;
        }
    }

    /** The least surroundings and levels on the pile, of a program that is well formed. */
    private static final class Types {
        private static final int BITS_OF_LEVEL = 2;
        private static final int LEVEL_MASK = 3;
        /** A level times this is that level for each of the 16 ints on a pile. */
        private static final long EACH_ON_PILE = 0x55555555L;
        /** Each round but the last one adds a bit, of a pile's levels or of a surrounding. */
        private static final int MOST_ROUNDS =
                MOST_INSTRUCTIONS * BITS_OF_LEVEL * (MOST_ON_PILE + 1) + 1;

        private final Program program;
        private final Levels levels;
        private final Shape shape;
        private final Junctions junctions;
        /** Two bits an int, the lowest int's lowest: so two piles together are one "or". */
        private final long[] piles = new long[MOST_INSTRUCTIONS];
        private long surroundedByOne;
        private long surroundedByTwo;
        private boolean grown;

        Types(Program program, Levels levels, Shape shape, Junctions junctions) {
            this.program = program;
            this.levels = levels;
            this.shape = shape;
            this.junctions = junctions;
        }

        int surroundingAt(int place) {
            return (holds(surroundedByOne, place) ? OWNER_ONE : 0)
                    | (holds(surroundedByTwo, place) ? OWNER_TWO : 0);
        }

        int levelOnPile(int place, int i) {
            if (!program.has(place) || !isBetween(i, MOST_ON_PILE)) {
                return 0;
            }
            return (int) (piles[place] >>> (BITS_OF_LEVEL * i)) & LEVEL_MASK;
        }

        void find() {
            Arrays.fill(piles, 0L);
            surroundedByOne = 0L;
            surroundedByTwo = 0L;
            grown = true;
            for (int round = 0; round < MOST_ROUNDS && grown; round++) {
                grown = false;
                for (int place = 0; place < program.size(); place++) {
                    if (shape.isMet(place)) {
                        spreadFrom(place);
                    }
                }
            }
        }

        int firstUnsafe() {
            for (int place = 0; place < program.size(); place++) {
                if (shape.isMet(place) && !isSafe(place)) {
                    return place;
                }
            }
            return NONE;
        }

        private boolean isSafe(int place) {
            int number = program.numberAt(place);
            int told = takenAt(place) | surroundingAt(place);
            switch (program.kindAt(place)) {
                case STORE:
                    return isBelow(told, levels.ofVariable(number));
                case LAY:
                    return isBelow(told, levels.ofArray(number));
                case OUT:
                    return isBelow(told, levels.ofChannel(number));
                default:
                    return true;
            }
        }

        private void spreadFrom(int place) {
            int kind = program.kindAt(place);
            int taken = takenAt(place);
            int staying = shape.heightAt(place) - TAKES[kind];
            long ofStaying = (1L << (BITS_OF_LEVEL * staying)) - 1L;
            long left = piles[place] & ofStaying;
            if (kind == IFZERO) {
                left |= taken * EACH_ON_PILE & ofStaying;
                growSurroundings(junctions.regionOf(place), taken);
            }
            if (PUTS[kind] != 0) {
                long put = taken | surroundingAt(place) | readBy(place);
                left |= put << (BITS_OF_LEVEL * staying);
            }
            growPile(program.plainFollower(place), left);
            growPile(program.otherFollower(place), left);
        }

        /** All that is taken together: no rule asks for the parts of it. */
        private int takenAt(int place) {
            int height = shape.heightAt(place);
            int together = 0;
            for (int i = height - TAKES[program.kindAt(place)]; i < height; i++) {
                together |= levelOnPile(place, i);
            }
            return together;
        }

        private int readBy(int place) {
            int number = program.numberAt(place);
            switch (program.kindAt(place)) {
                case LOAD:
                    return levels.ofVariable(number);
                case GET:
                    return levels.ofArray(number);
                default:
                    return 0;
            }
        }

        private void growPile(int place, long left) {
            if (program.has(place) && (left & ~piles[place]) != 0L) {
                piles[place] |= left;
                grown = true;
            }
        }

        private void growSurroundings(long region, int level) {
            long byOne = isBelow(OWNER_ONE, level) ? region & ~surroundedByOne : 0L;
            long byTwo = isBelow(OWNER_TWO, level) ? region & ~surroundedByTwo : 0L;
            if ((byOne | byTwo) != 0L) {
                surroundedByOne |= byOne;
                surroundedByTwo |= byTwo;
                grown = true;
            }
        }
    }

    private static final class Memory {
        private static final int CELLS = VARIABLES + ARRAYS * ARRAY_LENGTH;

        /** The variables, then the arrays, in the order in which the face numbers them. */
        private final int[] cells = new int[CELLS];

        static int cellOf(int array, int index) {
            return VARIABLES + array * ARRAY_LENGTH + Math.floorMod(index, ARRAY_LENGTH);
        }

        int get(int cell) {
            return isBetween(cell, CELLS) ? cells[cell] : 0;
        }

        void set(int cell, int v) {
            if (isBetween(cell, CELLS)) {
                cells[cell] = v;
            }
        }
    }

    /** What is known of the latest run with a memory. */
    private static final class Outcome {
        private final int[] channels = new int[MOST_KEPT];
        private final int[] ints = new int[MOST_KEPT];
        private boolean there;
        private boolean halted;
        private int count;

        boolean isThere() {
            return there;
        }

        boolean isHalted() {
            return halted;
        }

        int count() {
            return count;
        }

        int kept() {
            return Math.min(count, MOST_KEPT);
        }

        int channelAt(int i) {
            return isBetween(i, kept()) ? channels[i] : 0;
        }

        int intAt(int i) {
            return isBetween(i, kept()) ? ints[i] : 0;
        }

        void begin() {
            there = true;
            halted = false;
            count = 0;
        }

        void halt() {
            halted = true;
        }

        void add(int channel, int v) {
            if (count < MOST_KEPT) {
                channels[count] = channel;
                ints[count] = v;
            }
            count++;
        }

        /** The next kept int that readers of a level see; NONE if there is none. */
        int nextSeen(int from, int level, Levels levels) {
            for (int i = from; i < kept(); i++) {
                if (isBelow(levels.ofChannel(channelAt(i)), level)) {
                    return i;
                }
            }
            return NONE;
        }

        boolean isAlike(int i, Outcome other, int j) {
            return channelAt(i) == other.channelAt(j) && intAt(i) == other.intAt(j);
        }
    }

    private static final class Machine {
        private final Program program;
        private final int[] onPile = new int[MOST_ON_PILE];
        private int height;

        Machine(Program program) {
            this.program = program;
        }

        int work(Memory memory, Outcome outcome, int most) {
            outcome.begin();
            height = 0;
            int place = 0;
            int done = 0;
            while (done < most && !outcome.isHalted()) {
                place = doAt(place, memory, outcome);
                done++;
            }
            return done;
        }

        /** Does an instruction: where it goes on. */
        private int doAt(int place, Memory memory, Outcome outcome) {
            int number = program.numberAt(place);
            switch (program.kindAt(place)) {
                case PUSH:
                    put(number);
                    break;
                case LOAD:
                    put(memory.get(number));
                    break;
                case STORE:
                    memory.set(number, take());
                    break;
                case DO:
                    doWithTwo(number);
                    break;
                case JUMP:
                    return number;
                case IFZERO:
                    return take() == 0 ? number : place + 1;
                case GET:
                    put(memory.get(Memory.cellOf(number, take())));
                    break;
                case LAY:
                    layInto(memory, number);
                    break;
                case OUT:
                    outcome.add(number, take());
                    break;
                default:
                    outcome.halt();
                    break;
            }
            return place + 1;
        }

        private void layInto(Memory memory, int array) {
            int value = take();
            int index = take();
            memory.set(Memory.cellOf(array, index), value);
        }

        private void doWithTwo(int number) {
            int b = take();
            int a = take();
            put(resultOf(number, a, b));
        }

        private static int resultOf(int number, int a, int b) {
            switch (number) {
                case 0:
                    return a + b;
                case 1:
                    return a - b;
                case 2:
                    return a * b;
                case 3:
                    return a < b ? 1 : 0;
                case 4:
                    return a == b ? 1 : 0;
                case 5:
                    return a & b;
                default:
                    return a | b;
            }
        }

        // A well formed program never takes too much nor puts too much: the looks keep calls safe.

        private void put(int v) {
            if (height < MOST_ON_PILE) {
                onPile[height] = v;
                height++;
            }
        }

        private int take() {
            if (height <= 0) {
                return 0;
            }
            height--;
            return onPile[height];
        }
    }
}
