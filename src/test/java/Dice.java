/** Numbers that look thrown but are the same in each run of the tests. */
final class Dice {
    private static final int[] WILD = {
        Integer.MIN_VALUE, Integer.MIN_VALUE + 1, -65, -64, -9, -8, -2, -1, 64, 65, 10_000, 10_001,
        1 << 16, Integer.MAX_VALUE - 1, Integer.MAX_VALUE
    };

    private long state;

    Dice(long seed) {
        state = seed * 0x9E3779B97F4A7C15L + 1;
    }

    int below(int bound) {
        state = state * 6364136223846793005L + 1442695040888963407L;
        return (int) ((state >>> 33) % bound);
    }

    boolean oneIn(int n) {
        return below(n) == 0;
    }

    /** Mostly 0 .. bound - 1, at times something just beside or far off. */
    int about(int bound) {
        if (oneIn(12)) {
            return WILD[below(WILD.length)];
        }
        return oneIn(12) ? bound : below(bound);
    }

    int anyInt() {
        switch (below(4)) {
            case 0:
                return WILD[below(WILD.length)];
            case 1:
                return below(1 << 30) - (1 << 29);
            default:
                return below(7) - 3;
        }
    }
}
