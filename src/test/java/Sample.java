/** Objects to begin from, made anew for each call that is looked at, and small enough to be seen whole. */
final class Sample {
    private Sample() {
    }

    /** Filter 0 is of counters, 1 of buckets, 2 of runs, each with two items; 3 is none. */
    static FewBits some() {
        FewBits bits = empty();
        bits.add(0, Items.places(3, 0, 1));
        bits.add(0, Items.places(3, 7, 7));
        bits.add(1, Items.print(1, 4, 8, 0, 0));
        bits.add(1, Items.print(1, 4, 14, 1, 0));
        bits.add(2, Items.pair(2, 5, 3, 31, 0));
        bits.add(2, Items.pair(2, 5, 3, 1, 0));
        return bits;
    }

    static FewBits empty() {
        FewBits bits = new FewBits();
        bits.make(0, 1, 3, 2);
        bits.make(1, 2, 1, 4);
        bits.make(2, 3, 2, 5);
        return bits;
    }

    /** The same three, with no room for any item. */
    static FewBits full() {
        FewBits bits = empty();
        for (int place = 0; place < 8; place += 2) {
            bits.addAll(0, Items.places(3, place, place + 1), 0, 15);
        }
        // 14 and 9 have but one bucket.
        bits.addAll(1, Items.print(1, 4, 14, 0, 0), 0, 4);
        bits.addAll(1, Items.print(1, 4, 9, 1, 0), 0, 4);
        bits.addAll(2, Items.pair(2, 5, 1, 16, 0), 0, 4);
        return bits;
    }

    /** The only filter: f, of this kind, and empty. */
    static FewBits one(int f, int kind, int a, int b) {
        FewBits bits = new FewBits();
        bits.make(f, kind, a, b);
        return bits;
    }

    static FewBits counters(int a, int b) {
        return one(0, 1, a, b);
    }

    /** Four buckets with fingerprints 1 .. 15; from a bucket, the other one of 13 is itself. */
    static FewBits buckets(int[]... prints) {
        FewBits bits = one(0, 2, 2, 4);
        for (int bucket = 0; bucket < prints.length; bucket++) {
            for (int print : prints[bucket]) {
                bits.add(0, Items.print(2, 4, print, bucket, 0));
            }
        }
        return bits;
    }

    /** Runs of four slots and remainders of four bits, with pairs: quotient, remainder, quotient, .. */
    static FewBits runs(int... pairs) {
        FewBits bits = one(0, 3, 2, 4);
        addPairs(bits, 0, 2, 4, pairs);
        return bits;
    }

    static void addPairs(FewBits bits, int f, int a, int b, int... pairs) {
        for (int i = 0; i + 1 < pairs.length; i += 2) {
            bits.add(f, Items.pair(a, b, pairs[i], pairs[i + 1], 0));
        }
    }
}
