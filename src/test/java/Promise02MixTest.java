/** Promise 2: mix. */
public final class Promise02MixTest {
    private static final long STEP = 0x9E3779B97F4A7C15L;

    public static void main(String[] args) {
        FewBits bits = new FewBits();
        // The numbers that SplitMix64, the well-known generator, gives from the seeds 0 and 1234567.
        due(bits, 0, 0xE220A8397B1DCDAFL, 0x6E789E6AA1B965F4L, 0x06C45D188009454FL, 0xF88BB8A8724C81ECL);
        due(bits, 1234567, 6457827717110365317L, 3203168211198807973L, -8629252141511181193L, 4593380528125082431L);
        Check.due("mix(0, -1)", bits.mix(0, -1), 0);
        Check.due("s below -1", bits.mix(STEP, -2), 0);
        Check.due("wraps", bits.mix(-STEP, 0), 0);
        long[] items = {0, 1, -1, 12345, Long.MIN_VALUE, Long.MAX_VALUE};
        int[] numbers = {0, 1, 2, 5, -1, -2, -100, Integer.MIN_VALUE, Integer.MAX_VALUE - 1, Integer.MAX_VALUE};
        for (long x : items) {
            for (int s : numbers) {
                Check.due("mix(" + x + ", " + s + ")", bits.mix(x, s), Model.mix(x, s));
            }
        }
        Check.dueThrow("mix makes no filter", IllegalStateException.class, () -> bits.count(0, 0));
        Check.done();
    }

    private static void due(FewBits bits, long x, long... numbers) {
        for (int s = 0; s < numbers.length; s++) {
            Check.due("mix(" + x + ", " + s + ")", bits.mix(x, s), numbers[s]);
        }
    }
}
