/** A row of numbers that looks like chance and is the same each time. */
final class Dice {
    private long z;

    Dice(long seed) {
        z = seed;
    }

    /** 0 to n - 1. */
    int to(int n) {
        z = z * 6364136223846793005L + 1442695040888963407L;
        return (int) ((z >>> 33) % n);
    }

    /** Mostly of 0 to most, now and then just outside or far off. */
    int about(int most) {
        int r = to(40);
        if (r == 0) {
            return -1;
        }
        if (r == 1) {
            return most + 1;
        }
        if (r == 2) {
            return pick(new int[] {Integer.MIN_VALUE, Integer.MAX_VALUE, -2, most + 2, most + 100});
        }
        return to(most + 1);
    }

    int pick(int[] of) {
        return of[to(of.length)];
    }
}
