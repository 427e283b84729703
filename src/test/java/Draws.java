/** A fixed row of numbers, so that every run of a test is the same. */
final class Draws {
    private long drawn;

    Draws(long seed) {
        drawn = seed;
    }

    int below(int bound) {
        drawn = drawn * 6364136223846793005L + 1442695040888963407L;
        return (int) ((drawn >>> 33) % bound);
    }
}
