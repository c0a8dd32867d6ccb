/** Promises 18 and 19: SQUASH and STRETCH, every value against the document's own words. */
public final class NumbersTest {
    private static final int[] T = {1, 2, 3, 6, 10, 16, 27, 45, 73, 120, 194, 310, 488, 747, 1101, 1546, 2047, 2549,
        2994, 3348, 3607, 3785, 3901, 3975, 4022, 4050, 4068, 4079, 4085, 4089, 4092, 4093, 4094};

    public static void main(String[] args) {
        Due due = new Due("NumbersTest");
        ContextMix x = new ContextMix(6);
        squash(due, x);
        stretch(due, x);
        due.end();
    }

    private static void squash(Due due, ContextMix x) {
        for (int k = 1; k < 32; k++) {
            due.is("squash at T(" + k + ")", x.squash((k - 16) * 128), T[k]);
        }
        for (int d = -2047; d <= 2047; d++) {
            double k = Math.floor(d / 128.0) + 16;
            double w = d - Math.floor(d / 128.0) * 128;
            double mean = Math.floor((T[(int) k] * (128 - w) + T[(int) k + 1] * w + 64) / 128);
            due.is("squash(" + d + ")", x.squash(d), (long) mean);
        }
        int[] far = {2048, 2049, 4096, 1000000, Integer.MAX_VALUE};
        for (int d : far) {
            due.is("squash(" + d + ")", x.squash(d), 4095);
            due.is("squash(" + -d + ")", x.squash(-d), 0);
        }
        due.is("squash(least)", x.squash(Integer.MIN_VALUE), 0);
        due.is("squash(2047)", x.squash(2047), 4094);
        due.is("squash(-2047)", x.squash(-2047), 1);
        due.is("squash(-1)", x.squash(-1), 2043);
    }

    private static void stretch(Due due, ContextMix x) {
        for (int p = 0; p <= 4095; p++) {
            int least = 2047;
            for (int d = 2047; d >= -2047; d--) {
                if (x.squash(d) >= p) {
                    least = d;
                }
            }
            due.is("stretch(" + p + ")", x.stretch(p), least);
        }
        due.is("stretch(0)", x.stretch(0), -2047);
        due.is("stretch(1)", x.stretch(1), -2047);
        due.is("stretch(2047)", x.stretch(2047), 0);
        due.is("stretch(4095)", x.stretch(4095), 2047);
        int[] none = {-1, 4096, -4096, 10000, Integer.MIN_VALUE, Integer.MAX_VALUE};
        for (int p : none) {
            due.is("stretch(" + p + ")", x.stretch(p), -9999);
        }
    }
}
