import java.util.function.LongPredicate;

/** Finds items by how a filter sees them, with the model's mix. */
final class Items {
    private static final int FARTHEST = 2_000_000;

    private Items() {
    }

    /** An item of runs with a quotient and a remainder; nth tells apart those that look the same. */
    static long pair(int a, int b, int quotient, int remainder, int nth) {
        long want = (long) quotient << b | remainder;
        return nth(nth, x -> Model.mix(x, 0) >>> 64 - a - b == want);
    }

    /** An item of buckets whose highest b bits (not yet 1 for 0) and first bucket are given. */
    static long print(int a, int b, int high, int first, int nth) {
        return nth(nth, x -> Model.mix(x, 0) >>> 64 - b == high && low(x, 1, a) == first);
    }

    /** An item of counters with these places, in this order. */
    static long places(int a, int... places) {
        return nth(0, x -> {
            for (int s = 0; s < places.length; s++) {
                if (low(x, s, a) != places[s]) {
                    return false;
                }
            }
            return true;
        });
    }

    private static long low(long x, int s, int a) {
        return Model.mix(x, s) & (1L << a) - 1;
    }

    private static long nth(int nth, LongPredicate fits) {
        int left = nth;
        for (long x = 0; x < FARTHEST; x++) {
            if (fits.test(x) && left-- == 0) {
                return x;
            }
        }
        throw new AssertionError("no such item");
    }
}
