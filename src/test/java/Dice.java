/** Numbers that look thrown but are the same in every run. */
final class Dice {
    private long state;

    Dice(long seed) {
        state = seed * 0x9E3779B97F4A7C15L + 1;
    }

    int below(int n) {
        state ^= state << 13;
        state ^= state >>> 7;
        state ^= state << 17;
        return (int) Long.remainderUnsigned(state, n);
    }

    int between(int a, int b) {
        return a + below(b - a + 1);
    }

    boolean oneIn(int n) {
        return below(n) == 0;
    }

    int oneOf(int... of) {
        return of[below(of.length)];
    }
}
