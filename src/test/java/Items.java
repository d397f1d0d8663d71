/** Finds items by how a filter sees them: the mix can be gone backwards, from what is wanted of it. */
final class Items {
    private static final long STEP = 0x9E3779B97F4A7C15L;
    private static final int FARTHEST = 2_000_000;

    private Items() {
    }

    /** The item whose mix by 0 is this. */
    static long mixingTo(long mix) {
        long z = mix ^ mix >>> 31 ^ mix >>> 62;
        z *= inverse(0x94D049BB133111EBL);
        z = z ^ z >>> 27 ^ z >>> 54;
        z *= inverse(0xBF58476D1CE4E5B9L);
        z = z ^ z >>> 30 ^ z >>> 60;
        long x = z - STEP;
        if (Model.mix(x, 0) != mix) {
            throw new AssertionError("the way back does not end where the mix begins");
        }
        return x;
    }

    /** An item of runs with a quotient and a remainder; nth tells apart those that look the same. */
    static long pair(int a, int b, int quotient, int remainder, int nth) {
        return mixingTo(((long) quotient << b | remainder) << 64 - a - b | nth);
    }

    /** An item of buckets whose highest b bits (not yet 1 for 0) and first bucket are given. */
    static long print(int a, int b, int high, int first, int nth) {
        int left = nth;
        for (long low = 0; low < FARTHEST; low++) {
            long x = mixingTo((long) high << 64 - b | low);
            if (low(x, 1, a) == first && left-- == 0) {
                return x;
            }
        }
        throw new AssertionError("no such item");
    }

    /** An item of counters with these places, in this order. */
    static long places(int a, int... places) {
        for (long high = 0; high < FARTHEST; high++) {
            long x = mixingTo(high << a | places[0]);
            if (hasPlaces(x, a, places)) {
                return x;
            }
        }
        throw new AssertionError("no such item");
    }

    private static boolean hasPlaces(long x, int a, int... places) {
        for (int s = 0; s < places.length; s++) {
            if (low(x, s, a) != places[s]) {
                return false;
            }
        }
        return true;
    }

    private static long low(long x, int s, int a) {
        return Model.mix(x, s) & (1L << a) - 1;
    }

    /** Of an odd number, modulo 2 to the 64: each round doubles the bits that are right. */
    private static long inverse(long odd) {
        long inverse = odd;
        for (int i = 0; i < 6; i++) {
            inverse *= 2 - odd * inverse;
        }
        return inverse;
    }
}
