/** Promise 8: hasAll. */
public final class Promise08HasAllTest {
    public static void main(String[] args) {
        asManyAsOneByOne();
        wrongNumbers();
        Check.done();
    }

    private static void asManyAsOneByOne() {
        for (int kind = 1; kind <= 3; kind++) {
            FewBits bits = withTwenty(kind);
            FewBits oneByOne = withTwenty(kind);
            String before = Check.cells(bits, 0);
            int there = 0;
            for (int i = 0; i < 400; i++) {
                there += oneByOne.has(0, 200L - i) ? 1 : 0;
            }
            Check.due("kind " + kind, bits.hasAll(0, 200, -1, 400), there);
            Check.due("those that were added", bits.hasAll(0, 10, 3, 20), 20);
            Check.due("the same one again and again", bits.hasAll(0, 10, 0, 400), 400);
            Check.due("n is 0", bits.hasAll(0, 10, 3, 0), 0);
            Check.dueText("nothing is changed", Check.cells(bits, 0), before);
        }
        FewBits bits = new FewBits();
        bits.make(0, 3, 8, 20);
        bits.add(0, Long.MIN_VALUE);
        Check.due("over the end of longs", bits.hasAll(0, Long.MAX_VALUE - 1, 1, 4), 1);
    }

    private static FewBits withTwenty(int kind) {
        FewBits bits = Sample.one(0, kind, 5, 4);
        bits.addAll(0, 10, 3, 20);
        return bits;
    }

    private static void wrongNumbers() {
        FewBits bits = new FewBits();
        bits.make(0, 1, 10, 1);
        for (int n : new int[] {-1, 401, Integer.MIN_VALUE, Integer.MAX_VALUE}) {
            Check.dueThrow("n is " + n, IllegalArgumentException.class, () -> bits.hasAll(0, 0, 1, n));
            Check.dueThrow("none", IllegalStateException.class, () -> bits.hasAll(1, 0, 1, n));
            Check.dueThrow("no number", IndexOutOfBoundsException.class, () -> bits.hasAll(-1, 0, 1, n));
        }
    }
}
