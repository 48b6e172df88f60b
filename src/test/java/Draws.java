/** The document's DRAWS by themselves: x becomes (1103515245 x + 12345) mod 2 to the 31; floor(x / 64) mod m. */
final class Draws {
    private Draws() {
    }

    static int next(int x) {
        return (int) ((1103515245L * x + 12345L) % (1L << 31));
    }

    /** The DRAWS of these, one behind the other. */
    static int[] of(int seed, int... m) {
        int[] drawn = new int[m.length];
        int x = seed;
        for (int k = 0; k < m.length; k++) {
            x = next(x);
            drawn[k] = x / 64 % m[k];
        }
        return drawn;
    }

    static int behind(int seed, int draws) {
        int x = seed;
        for (int k = 0; k < draws; k++) {
            x = next(x);
        }
        return x;
    }
}
