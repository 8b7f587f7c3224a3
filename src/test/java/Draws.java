/** THE SEED by the document's words, and seeds whose first DRAWS are as wanted. */
final class Draws {
    private static final long FACTOR = 1103515245L, MORE = 12345L, ROUND = 2147483648L;

    private Draws() { }

    static int next(int seed) {
        return (int) ((seed * FACTOR + MORE) % ROUND);
    }

    static int behind(int seed, int draws) {
        int now = seed;
        for (int i = 0; i < draws; i++) {
            now = next(now);
        }
        return now;
    }

    /** The least seed from which, pair by pair, a DRAW of the first gives the second. */
    static int seed(int... pairs) {
        for (int seed = 0; seed < 10000000; seed++) {
            if (gives(seed, pairs)) {
                return seed;
            }
        }
        throw new IllegalStateException("no such seed");
    }

    private static boolean gives(int seed, int[] pairs) {
        int now = seed;
        for (int i = 0; i < pairs.length; i += 2) {
            now = next(now);
            if (now / 65536 % pairs[i] != pairs[i + 1]) {
                return false;
            }
        }
        return true;
    }
}
