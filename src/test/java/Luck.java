/** Numbers that look like luck, the same ones at every run. */
final class Luck {
    private long state;

    Luck(long seed) {
        state = seed * 0x9E3779B97F4A7C15L + 1;
    }

    /** 0 .. below less 1. */
    int of(int below) {
        state = state * 6364136223846793005L + 1442695040888963407L;
        return (int) ((state >>> 33) % below);
    }

    int from(int low, int high) {
        return low + of(high - low + 1);
    }

    boolean oneIn(int n) {
        return of(n) == 0;
    }
}
