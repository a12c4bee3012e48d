/** The same draws in every run of the tests. */
final class Draws {
    private long s;

    Draws(long seed) {
        s = seed * 0x9E3779B97F4A7C15L + 12345;
    }

    int by(int n) {
        s = s * 6364136223846793005L + 1442695040888963407L;
        return (int) ((s >>> 33) % n);
    }

    boolean chance(int percent) {
        return by(100) < percent;
    }

    int from(int least, int most) {
        return least + by(most - least + 1);
    }

    <T> T of(T[] all) {
        return all[by(all.length)];
    }
}
