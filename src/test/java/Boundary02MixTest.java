/** The boundary cases of promise 2: where the mix wraps, and what comes from above when it is moved down. */
public final class Boundary02MixTest {
    private static final long STEP = 0x9E3779B97F4A7C15L;

    public static void main(String[] args) {
        Check.test("all wraps: x and the step of s = 0 to just 0", () -> due(-STEP, 0, 0));
        Check.test("all wraps: the greatest x", () -> due(Long.MAX_VALUE, 0, 3055647633038352039L));
        Check.test("all wraps: the least x", () -> due(Long.MIN_VALUE, 0, 5196802822362493915L));
        Check.test("all wraps: one above the greatest is the least",
            () -> due(Long.MAX_VALUE + 1, 0, 5196802822362493915L));
        Check.test("x is 0, s is 0", () -> due(0, 0, -2152535657050944081L));
        Check.test("x is 0, s is -1: nothing is added", () -> due(0, -1, 0));
        Check.test("x is 1, s is -1", () -> due(1, -1, 6238072747940578789L));
        Check.test("s is below -1: the step is taken away", () -> due(STEP, -2, 0));
        Check.test("s is below -1, x is 0", () -> due(0, -2, 3703370420611038912L));
        Check.test("the least s", () -> due(0, Integer.MIN_VALUE, -1028814066529693430L));
        Check.test("the greatest s but one", () -> due(0, Integer.MAX_VALUE - 1, -8132642193743802657L));
        // The document's s + 1 is a number here, 2 to the 31, and not an int that wraps.
        Check.test("the greatest s", () -> due(0, Integer.MAX_VALUE, -4588646940151927474L));
        Check.test("0s come from above: all bits of x are 1", () -> due(-1, -1, -5417735806833148549L));
        Check.test("0s come from above: the highest bit of x alone",
            () -> due(Long.MIN_VALUE, -1, 2720858781877447050L));
        Check.test("the last number of a place", () -> due(-1, 5, -3234237927366542541L));
        Check.test("mix needs no filter, and makes none", Boundary02MixTest::leavesFiltersAlone);
        Check.done();
    }

    private static void due(long x, int s, long want) {
        Check.due("mix(" + x + ", " + s + ")", new FewBits().mix(x, s), want);
        Check.due("the model's mix", Model.mix(x, s), want);
    }

    private static void leavesFiltersAlone() {
        FewBits bits = Sample.some();
        bits.mix(5, 5);
        Check.dueText("the state", Check.state(bits), Check.state(Sample.some()));
    }
}
