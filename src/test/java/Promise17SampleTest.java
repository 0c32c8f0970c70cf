public final class Promise17SampleTest {
    public static void main(String[] args) {
        StripMixer x = Setup.tracks(3, 1, 2, 3, 4, 5);
        Check.index("sample(0, 0) without a block", () -> x.sample(0, 0));
        x.render(1, 3);
        Check.same("sample(0, 0)", x.sample(0, 0), 2);
        Check.same("sample(1, 2)", x.sample(1, 2), 4);
        Check.same("sample(2, 1)", x.sample(2, 1), 0);
        Check.same("sample(7, 1)", x.sample(7, 1), 6);
        for (int i : new int[] {-1, 3, 64, Integer.MIN_VALUE, Integer.MAX_VALUE}) {
            Check.index("sample(0, " + i + ")", () -> x.sample(0, i));
        }
        for (int strip : new int[] {-1, 8, Integer.MIN_VALUE, Integer.MAX_VALUE}) {
            Check.index("sample(" + strip + ", 0)", () -> x.sample(strip, 0));
        }
        x.drop(0);
        x.turn(1, 1);
        x.fader(7, 0);
        x.effect(1, 0, 4, 1, 16);
        x.route(1, 4);
        Check.argument("render(0, 65)", () -> x.render(0, 65));
        Check.argument("bounce(8, 0, 1)", () -> x.bounce(8, 0, 1));
        Check.same("meter(7, 3)", x.meter(7, 3), 16);
        Setup.shows("the block stays", x, 0, 2, 3, 4);
        Setup.shows("the block stays", x, 1, 2, 3, 4);
        Setup.shows("the block stays", x, 7, 4, 6, 8);
        x.render(1, 1);
        Check.same("until the next one", x.sample(0, 0), 0);
        Check.index("until the next one", () -> x.sample(0, 1));
        Check.end();
    }
}
