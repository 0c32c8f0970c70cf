public final class Promise02SamplesTest {
    public static void main(String[] args) {
        StripMixer x = new StripMixer();
        x.samples(0, 0, Setup.four(1, -1, 32767, -32768));
        shows(x, 0, 0, 1, -1, 32767, -32768, 0);
        x.samples(0, 2, 0x0004000300020001L);
        shows(x, 0, 0, 1, -1, 1, 2, 3, 4, 0);
        x.samples(7, 60, -1L);
        shows(x, 7, 59, 0, -1, -1, -1, -1);
        x.samples(7, 60, Long.MIN_VALUE);
        shows(x, 7, 59, 0, 0, 0, 0, -32768);

        for (int t : new int[] {-1, 8, Integer.MIN_VALUE, Integer.MAX_VALUE}) {
            Check.index("samples(" + t + ", 0, 9)", () -> x.samples(t, 0, 9));
        }
        for (int i : new int[] {-1, 61, 64, Integer.MIN_VALUE, Integer.MAX_VALUE}) {
            Check.index("samples(0, " + i + ", 9)", () -> x.samples(0, i, 9));
        }
        x.seal(0, 64);
        Check.state("samples of a sealed take", () -> x.samples(0, 0, 9));
        Check.index("samples(0, 61, 9), sealed", () -> x.samples(0, 61, 9));
        shows(x, 0, 0, 1, -1, 1, 2, 3, 4, 0);
        x.samples(1, 0, 9);
        shows(x, 1, 0, 9, 0);
        Check.end();
    }

    private static void shows(StripMixer x, int t, int from, int... due) {
        for (int i = 0; i < due.length; i++) {
            Check.same("take(" + t + ", " + (from + i) + ")", x.take(t, from + i), due[i]);
        }
    }
}
