public final class Promise04TakeTest {
    public static void main(String[] args) {
        StripMixer x = new StripMixer();
        x.samples(2, 4, Setup.four(10, -20, 30, -40));
        Check.same("take(2, 5), open", x.take(2, 5), -20);
        Check.same("take(2, 63), open", x.take(2, 63), 0);
        Check.same("take(2, -1), open", x.take(2, -1), 0);
        Check.index("take(2, 64), open", () -> x.take(2, 64));
        x.seal(2, 6);
        Check.same("take(2, 5), sealed", x.take(2, 5), -20);
        Check.same("take(2, -1), sealed", x.take(2, -1), 6);
        Check.index("take(2, 6), sealed", () -> x.take(2, 6));
        for (int i : new int[] {-2, 64, Integer.MIN_VALUE, Integer.MAX_VALUE}) {
            Check.index("take(2, " + i + ")", () -> x.take(2, i));
            Check.index("take(3, " + i + ")", () -> x.take(3, i));
        }
        for (int t : new int[] {-1, 8, Integer.MIN_VALUE, Integer.MAX_VALUE}) {
            Check.index("take(" + t + ", 0)", () -> x.take(t, 0));
            Check.index("take(" + t + ", -1)", () -> x.take(t, -1));
        }
        Check.end();
    }
}
