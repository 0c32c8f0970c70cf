public final class Promise03SealTest {
    public static void main(String[] args) {
        StripMixer x = new StripMixer();
        x.seal(0, 1);
        x.seal(7, 64);
        Check.same("take(0, -1)", x.take(0, -1), 1);
        Check.same("take(7, -1)", x.take(7, -1), 64);
        Check.same("take(1, -1)", x.take(1, -1), 0);

        for (int t : new int[] {-1, 8, Integer.MIN_VALUE, Integer.MAX_VALUE}) {
            Check.index("seal(" + t + ", 1)", () -> x.seal(t, 1));
            Check.index("seal(" + t + ", 0)", () -> x.seal(t, 0));
        }
        for (int length : new int[] {-1, 0, 65, Integer.MIN_VALUE, Integer.MAX_VALUE}) {
            Check.argument("seal(1, " + length + ")", () -> x.seal(1, length));
            Check.argument("seal(0, " + length + "), sealed", () -> x.seal(0, length));
        }
        Check.state("seal(0, 1), sealed", () -> x.seal(0, 1));
        Check.state("seal(0, 2), sealed", () -> x.seal(0, 2));
        Check.same("take(0, -1)", x.take(0, -1), 1);
        Check.same("take(1, -1)", x.take(1, -1), 0);
        x.samples(1, 0, 3);
        Check.same("take(1, 0)", x.take(1, 0), 3);
        Check.end();
    }
}
