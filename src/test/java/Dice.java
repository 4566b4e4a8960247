/** Numbers that look random and are the same in every run. */
final class Dice {
    private long state;

    Dice(long seed) {
        state = seed * 7919 + 17;
    }

    int below(int bound) {
        state = state * 6364136223846793005L + 1442695040888963407L;
        return (int) ((state >>> 33) % bound);
    }

    /** Mostly 0 .. bound - 1, now and then a number outside. */
    int about(int bound) {
        if (below(40) > 0) {
            return below(bound);
        }
        switch (below(4)) {
            case 0:
                return -1 - below(3);
            case 1:
                return Integer.MIN_VALUE;
            case 2:
                return Integer.MAX_VALUE;
            default:
                return bound + below(3);
        }
    }
}
