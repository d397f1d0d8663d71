import java.util.Arrays;
import java.util.NoSuchElementException;

/** Filters that tell which items they may have: counters, buckets of fingerprints, runs of remainders. */
public final class FewBits {
    public static final int NONE = -1;

    private static final int FILTERS = 4;
    private static final int KINDS = 3;
    private static final int COUNTERS = 1;
    private static final int BUCKETS = 2;
    private static final int RUNS = 3;
    private static final int MOST_ITEMS = 400;

    private final Filter[] filters;
    // Each number has one filter of each kind, made when it is first asked for and used again
    // ever after, so that many calls of make cost no more room than a few.
    private final Filter[] made;

    public FewBits() {
        filters = new Filter[FILTERS];
        made = new Filter[FILTERS * KINDS];
    }

    public long mix(long x, int s) {
        return mixed(x, s);
    }

    public void make(int f, int kind, int a, int b) throws IndexOutOfBoundsException, IllegalArgumentException {
        requireNumber(f);
        if (!mayBe(kind, a, b)) {
            throw new IllegalArgumentException("no such kind, or not with these numbers");
        }
        Filter filter = filterFor(f, kind);
        filter.begin(a, b);
        filters[f] = filter;
    }

    public int add(int f, long x)
            throws IndexOutOfBoundsException, IllegalStateException, UnsupportedOperationException {
        Filter filter = filterAt(f);
        if (!filter.accept(x)) {
            throw new UnsupportedOperationException("full");
        }
        return filter.held;
    }

    public int addAll(int f, long x, long step, int n)
            throws IndexOutOfBoundsException, IllegalStateException, IllegalArgumentException {
        Filter filter = filterAt(f);
        requireItems(n);
        long item = x;
        for (int i = 0; i < n; i++) {
            if (!filter.accept(item)) {
                return i;
            }
            item += step;
        }
        return n;
    }

    public int remove(int f, long x)
            throws IndexOutOfBoundsException, IllegalStateException, NoSuchElementException {
        Filter filter = filterAt(f);
        if (!filter.release(x)) {
            throw new NoSuchElementException("no such item");
        }
        return filter.held;
    }

    public boolean has(int f, long x) throws IndexOutOfBoundsException, IllegalStateException {
        return filterAt(f).holds(x);
    }

    public int hasAll(int f, long x, long step, int n)
            throws IndexOutOfBoundsException, IllegalStateException, IllegalArgumentException {
        Filter filter = filterAt(f);
        requireItems(n);
        int there = 0;
        long item = x;
        for (int i = 0; i < n; i++) {
            if (filter.holds(item)) {
                there++;
            }
            item += step;
        }
        return there;
    }

    public boolean same(int f, long x, long y) throws IndexOutOfBoundsException, IllegalStateException {
        return filterAt(f).looksAlike(x, y);
    }

    public int count(int f, int what)
            throws IndexOutOfBoundsException, IllegalStateException, IllegalArgumentException {
        Filter filter = filterAt(f);
        switch (what) {
            case 0: return filter.kind();
            case 1: return filter.a;
            case 2: return filter.b;
            case 3: return filter.held;
            case 4: return filter.filledCells();
            case 5: return filter.strain();
            default: throw new IllegalArgumentException("nothing to count by that number");
        }
    }

    public int cell(int f, int i) throws IllegalStateException, IndexOutOfBoundsException {
        if (!isNumber(f) || filters[f] == null) {
            throw new IllegalStateException("none");
        }
        Filter filter = filters[f];
        if (i < 0 || i >= filter.cells()) {
            throw new IndexOutOfBoundsException("no such counter or slot");
        }
        return filter.look(i);
    }

    public int merge(int f, int g)
            throws IndexOutOfBoundsException, IllegalStateException, IllegalArgumentException,
            UnsupportedOperationException {
        // Both numbers come before either filter: a wrong g is told first even if f is none.
        requireNumber(f);
        requireNumber(g);
        Filter first = filterAt(f);
        Filter second = filterAt(g);
        Runs into = asRuns(first);
        Runs from = asRuns(second);
        if (into.a != from.a || into.b != from.b) {
            throw new IllegalArgumentException("runs of other numbers");
        }
        if (!into.acceptPairs(from)) {
            throw new UnsupportedOperationException("no room for all");
        }
        return into.held;
    }

    public void grow(int f) throws IndexOutOfBoundsException, IllegalStateException, IllegalArgumentException {
        Runs runs = asRuns(filterAt(f));
        if (!mayBe(RUNS, runs.a + 1, runs.b - 1)) {
            throw new IllegalArgumentException("cannot grow any more");
        }
        runs.moveOneBit();
    }

    public int clear(int f) throws IndexOutOfBoundsException, IllegalStateException {
        Filter filter = filterAt(f);
        int had = filter.held;
        filter.begin(filter.a, filter.b);
        return had;
    }

    private static long mixed(long x, int s) {
        long z = x + (s + 1L) * 0x9E3779B97F4A7C15L;
        z = (z ^ (z >>> 30)) * 0xBF58476D1CE4E5B9L;
        z = (z ^ (z >>> 27)) * 0x94D049BB133111EBL;
        return z ^ (z >>> 31);
    }

    private static boolean isNumber(int f) {
        return isWithin(f, 0, FILTERS - 1);
    }

    private static boolean isWithin(int value, int least, int most) {
        return value >= least && value <= most;
    }

    private static boolean mayBe(int kind, int a, int b) {
        switch (kind) {
            case COUNTERS: return isWithin(a, 3, Counters.MOST_A) && isWithin(b, 1, Counters.MOST_PLACES);
            case BUCKETS: return isWithin(a, 1, Buckets.MOST_A) && isWithin(b, 4, 16);
            case RUNS: return isWithin(a, 2, Runs.MOST_A) && isWithin(b, 4, 20);
            default: return false;
        }
    }

    private static void requireNumber(int f) {
        if (!isNumber(f)) {
            throw new IndexOutOfBoundsException("no filter of that number");
        }
    }

    private static void requireItems(int n) {
        if (!isWithin(n, 0, MOST_ITEMS)) {
            throw new IllegalArgumentException("too few or too many items");
        }
    }

    private Filter filterAt(int f) {
        requireNumber(f);
        Filter filter = filters[f];
        if (filter == null) {
            throw new IllegalStateException("none");
        }
        return filter;
    }

    private Filter filterFor(int f, int kind) {
        int at = f * KINDS + kind - 1;
        if (made[at] == null) {
            made[at] = newFilter(kind);
        }
        return made[at];
    }

    private static Filter newFilter(int kind) {
        switch (kind) {
            case COUNTERS: return new Counters();
            case BUCKETS: return new Buckets();
            default: return new Runs();
        }
    }

    private static Runs asRuns(Filter filter) {
        if (filter instanceof Runs runs) {
            return runs;
        }
        throw new IllegalArgumentException("not a filter of runs");
    }

    /** What the three kinds have in common. */
    private abstract static class Filter {
        int a;
        int b;
        int held;

        final void begin(int newA, int newB) {
            a = newA;
            b = newB;
            held = 0;
            wipe();
        }

        final boolean accept(long x) {
            if (!put(x)) {
                return false;
            }
            held++;
            return true;
        }

        final boolean release(long x) {
            if (!take(x)) {
                return false;
            }
            held--;
            return true;
        }

        final int power() {
            return 1 << a;
        }

        final int lowestBits(long mix) {
            return (int) mix & (power() - 1);
        }

        int cells() {
            return power();
        }

        int filledCells() {
            return held;
        }

        abstract int kind();

        abstract void wipe();

        /** Puts an item in, or changes nothing and answers false. */
        abstract boolean put(long x);

        /** Takes an item out, or changes nothing and answers false. */
        abstract boolean take(long x);

        abstract boolean holds(long x);

        abstract boolean looksAlike(long x, long y);

        /** How hard the filter is pressed: each kind has its own measure of it. */
        abstract int strain();

        abstract int look(int i);
    }

    private static final class Counters extends Filter {
        static final int MOST_A = 10;
        static final int MOST_PLACES = 6;
        static final int HIGHEST = 15;

        final int[] counters = new int[1 << MOST_A];
        final int[] places = new int[MOST_PLACES];
        final int[] placesBeside = new int[MOST_PLACES];

        @Override
        int kind() {
            return COUNTERS;
        }

        @Override
        void wipe() {
            Arrays.fill(counters, 0);
        }

        @Override
        boolean put(long x) {
            findPlaces(x, places);
            for (int i = 0; i < b; i++) {
                if (counters[places[i]] + timesIn(places, places[i]) > HIGHEST) {
                    return false;
                }
            }
            countBy(1);
            return true;
        }

        @Override
        boolean take(long x) {
            findPlaces(x, places);
            for (int i = 0; i < b; i++) {
                if (counters[places[i]] < timesIn(places, places[i])) {
                    return false;
                }
            }
            countBy(-1);
            return true;
        }

        @Override
        boolean holds(long x) {
            findPlaces(x, places);
            for (int i = 0; i < b; i++) {
                if (counters[places[i]] == 0) {
                    return false;
                }
            }
            return true;
        }

        @Override
        boolean looksAlike(long x, long y) {
            findPlaces(x, places);
            findPlaces(y, placesBeside);
            // Both have b places, so those of x being as often in y leaves none that y has alone.
            for (int i = 0; i < b; i++) {
                if (timesIn(places, places[i]) != timesIn(placesBeside, places[i])) {
                    return false;
                }
            }
            return true;
        }

        @Override
        int filledCells() {
            int filled = 0;
            for (int i = 0; i < power(); i++) {
                if (counters[i] > 0) {
                    filled++;
                }
            }
            return filled;
        }

        @Override
        int strain() {
            int greatest = 0;
            for (int i = 0; i < power(); i++) {
                greatest = Math.max(greatest, counters[i]);
            }
            return greatest;
        }

        @Override
        int look(int i) {
            return counters[i];
        }

        void findPlaces(long x, int[] row) {
            for (int s = 0; s < b; s++) {
                row[s] = lowestBits(mixed(x, s));
            }
        }

        int timesIn(int[] row, int place) {
            int times = 0;
            for (int i = 0; i < b; i++) {
                if (row[i] == place) {
                    times++;
                }
            }
            return times;
        }

        void countBy(int by) {
            for (int i = 0; i < b; i++) {
                counters[places[i]] += by;
            }
        }
    }

    private static final class Buckets extends Filter {
        static final int MOST_A = 8;
        static final int SLOTS = 4;
        static final int PUSHES = 64;
        // No fingerprint is 0, so a free slot needs no mark of its own.
        static final int FREE = 0;

        final int[] slots = new int[SLOTS << MOST_A];
        final int[] path = new int[PUSHES];
        int pushed;

        @Override
        int kind() {
            return BUCKETS;
        }

        @Override
        int cells() {
            return SLOTS * power();
        }

        @Override
        void wipe() {
            Arrays.fill(slots, FREE);
            pushed = 0;
        }

        @Override
        boolean put(long x) {
            int print = fingerprint(x);
            int first = firstBucket(x);
            int second = otherBucket(first, print);
            return putFree(first, print) || putFree(second, print) || pushInto(second, print);
        }

        @Override
        boolean take(long x) {
            int slot = slotOf(x);
            if (slot == NONE) {
                return false;
            }
            slots[slot] = FREE;
            return true;
        }

        @Override
        boolean holds(long x) {
            return slotOf(x) != NONE;
        }

        @Override
        boolean looksAlike(long x, long y) {
            int print = fingerprint(x);
            if (print != fingerprint(y)) {
                return false;
            }
            // Which of the two buckets comes first does not matter to what is found there.
            int first = firstBucket(x);
            int firstOfY = firstBucket(y);
            return first == firstOfY || otherBucket(first, print) == firstOfY;
        }

        @Override
        int strain() {
            return pushed;
        }

        @Override
        int look(int i) {
            return slots[i];
        }

        int fingerprint(long x) {
            int print = (int) (mixed(x, 0) >>> (64 - b));
            return print == 0 ? 1 : print;
        }

        int firstBucket(long x) {
            return lowestBits(mixed(x, 1));
        }

        int otherBucket(int bucket, int print) {
            return bucket ^ lowestBits(mixed(print, 2));
        }

        int slotOf(long x) {
            int print = fingerprint(x);
            int first = firstBucket(x);
            int slot = slotWith(first, print);
            return slot != NONE ? slot : slotWith(otherBucket(first, print), print);
        }

        int slotWith(int bucket, int value) {
            int from = bucket * SLOTS;
            for (int slot = from; slot < from + SLOTS; slot++) {
                if (slots[slot] == value) {
                    return slot;
                }
            }
            return NONE;
        }

        boolean putFree(int bucket, int print) {
            int slot = slotWith(bucket, FREE);
            if (slot == NONE) {
                return false;
            }
            slots[slot] = print;
            return true;
        }

        boolean pushInto(int bucket, int print) {
            int at = bucket;
            int hand = print;
            for (int k = 0; k < PUSHES; k++) {
                path[k] = at * SLOTS + k % SLOTS;
                hand = exchange(path[k], hand);
                pushed++;
                at = otherBucket(at, hand);
                if (putFree(at, hand)) {
                    return true;
                }
            }
            pushBack(hand);
            return false;
        }

        void pushBack(int last) {
            int hand = last;
            for (int k = PUSHES - 1; k >= 0; k--) {
                hand = exchange(path[k], hand);
            }
        }

        int exchange(int slot, int print) {
            int out = slots[slot];
            slots[slot] = print;
            return out;
        }
    }

    /**
     * The pairs lie in one rising row, each as its quotient with its remainder behind it. Where the
     * remainders lie in the circle follows from that row alone, and is worked out when it is asked.
     */
    private static final class Runs extends Filter {
        static final int MOST_A = 8;
        static final int CLAIMED = 1;
        static final int FOLLOWS = 2;
        static final int MOVED = 4;
        static final int REMAINDER = 8;

        final int[] pairs = new int[1 << MOST_A];
        // For each slot the index of its pair, or NONE.
        final int[] circle = new int[1 << MOST_A];

        @Override
        int kind() {
            return RUNS;
        }

        @Override
        void wipe() {
            // Nothing at or behind held is ever read, so an empty row needs no wiping.
        }

        @Override
        boolean put(long x) {
            if (held >= power()) {
                return false;
            }
            int pair = pairOf(x);
            int at = firstNotBelow(pair);
            System.arraycopy(pairs, at, pairs, at + 1, held - at);
            pairs[at] = pair;
            return true;
        }

        @Override
        boolean take(long x) {
            int pair = pairOf(x);
            int at = firstNotBelow(pair);
            if (at >= held || pairs[at] != pair) {
                return false;
            }
            System.arraycopy(pairs, at + 1, pairs, at, held - at - 1);
            return true;
        }

        @Override
        boolean holds(long x) {
            int pair = pairOf(x);
            int at = firstNotBelow(pair);
            return at < held && pairs[at] == pair;
        }

        @Override
        boolean looksAlike(long x, long y) {
            return pairOf(x) == pairOf(y);
        }

        @Override
        int strain() {
            layOut();
            int longest = 0;
            int row = 0;
            // Twice round, for a row that goes on over the end of the circle.
            for (int i = 0; i < 2 * power(); i++) {
                row = circle[i & (power() - 1)] == NONE ? 0 : row + 1;
                longest = Math.max(longest, row);
            }
            return Math.min(longest, power());
        }

        @Override
        int look(int i) {
            layOut();
            int index = circle[i];
            if (index == NONE) {
                return 0;
            }
            int quotient = quotient(index);
            int seen = REMAINDER * remainder(index);
            if (isClaimed(i)) {
                seen += CLAIMED;
            }
            if (index > 0 && quotient(index - 1) == quotient) {
                seen += FOLLOWS;
            }
            if (quotient != i) {
                seen += MOVED;
            }
            return seen;
        }

        /** Takes in all pairs of another filter (or of this one), or changes nothing and answers false. */
        boolean acceptPairs(Runs from) {
            int mine = held - 1;
            int theirs = from.held - 1;
            int total = held + from.held;
            if (total > power()) {
                return false;
            }
            // From the back, so that no pair is written over before it is read, even if both are one row.
            for (int at = total - 1; at >= 0 && theirs >= 0; at--) {
                if (mine >= 0 && pairs[mine] > from.pairs[theirs]) {
                    pairs[at] = pairs[mine];
                    mine--;
                } else {
                    pairs[at] = from.pairs[theirs];
                    theirs--;
                }
            }
            held = total;
            return true;
        }

        void moveOneBit() {
            // Quotient and remainder lie side by side in a pair, so only where one ends is moved.
            a++;
            b--;
        }

        int pairOf(long x) {
            return (int) (mixed(x, 0) >>> (64 - a - b));
        }

        int quotient(int index) {
            return pairs[index] >> b;
        }

        int remainder(int index) {
            return pairs[index] & ((1 << b) - 1);
        }

        boolean isClaimed(int slot) {
            int at = firstNotBelow(slot << b);
            return at < held && quotient(at) == slot;
        }

        int firstNotBelow(int pair) {
            int at = 0;
            for (int leap = 1 << MOST_A; leap > 0; leap >>= 1) {
                if (at + leap <= held && pairs[at + leap - 1] < pair) {
                    at += leap;
                }
            }
            return at;
        }

        void layOut() {
            Arrays.fill(circle, NONE);
            int next = overEnd();
            for (int i = 0; i < held; i++) {
                int slot = Math.max(next, quotient(i));
                circle[slot & (power() - 1)] = i;
                next = slot + 1;
            }
        }

        /**
         * How many remainders of the last runs lie over the end, in slots 0, 1, ..: what a round that
         * begins with none finds. A second round from there on finds the same, for there are no more
         * pairs than slots.
         */
        int overEnd() {
            int next = 0;
            for (int i = 0; i < held; i++) {
                next = Math.max(next, quotient(i)) + 1;
            }
            return Math.max(0, next - power());
        }
    }
}
