public final class Promise19BounceTest {
    public static void main(String[] args) {
        plain();
        bounds();
        noneOpen();
        wrong();
        Check.end();
    }

    private static void plain() {
        Check.same("take 0 is open", new StripMixer().bounce(7, 0, 1), 0);
        StripMixer x = Setup.tracks(3, 1, -2, 3, -4);
        x.seal(2, 9);
        x.samples(1, 0, Setup.four(50, 51, 52, 53));
        Check.same("bounce(7, 1, 2)", x.bounce(7, 1, 2), 1);
        Check.same("its length", x.take(1, -1), 2);
        Check.same("its first", x.take(1, 0), -4);
        Check.same("its second", x.take(1, 1), 6);
        Check.index("its third", () -> x.take(1, 2));
        Setup.shows("the block is rendered", x, 0, -2, 3);
        Check.index("the block has two", () -> x.sample(0, 2));
        Check.state("it is sealed", () -> x.samples(1, 0, 0));
        Check.same("past a sealed one", x.bounce(0, 0, 64), 3);
        Check.same("its length", x.take(3, -1), 64);
        Check.same("its sample", x.take(3, 3), -4);
        Check.same("clip of it", x.clip(2, 100, 3, 1, 3), 2);
        Setup.renders("the clip", x, 7, 99, 0, -2, 3, -4, 0);
        x.drop(0);
        Check.same("a take never changes", x.take(3, 3), -4);
        x.turn(2, 1);
        Check.same("a muted strip", x.bounce(2, 100, 3), 4);
        Check.same("is silent", x.take(4, 1), 0);
    }

    private static void bounds() {
        StripMixer x = Setup.tracks(1, 16383, -16384, 16384, -16385, 32767, -32768);
        x.fader(0, 512);
        x.bounce(0, 0, 6);
        int[] due = {32766, -32768, 32767, -32768, 32767, -32768};
        for (int i = 0; i < due.length; i++) {
            Check.same("take(1, " + i + ")", x.take(1, i), due[i]);
        }
        Check.same("the block is not bound", x.sample(0, 4), 65534);
    }

    private static void noneOpen() {
        StripMixer x = Setup.tracks(1, 1, 2, 3);
        for (int t = 1; t < 8; t++) {
            Check.same("bounce " + t, x.bounce(0, t - 1, 1), t);
        }
        x.render(1, 1);
        Check.same("none is open", x.bounce(0, 0, 3), -1);
        Setup.shows("nothing is rendered", x, 0, 2);
        Check.index("nothing is rendered", () -> x.sample(0, 1));
        Check.argument("none is open, wrong strip", () -> x.bounce(8, 0, 1));
        Check.argument("none is open, wrong block", () -> x.bounce(0, 0, 0));
    }

    private static void wrong() {
        StripMixer x = Setup.tracks(1, 9);
        x.render(0, 1);
        for (int strip : new int[] {-1, 8, Integer.MIN_VALUE, Integer.MAX_VALUE}) {
            Check.argument("bounce(" + strip + ", 0, 1)", () -> x.bounce(strip, 0, 1));
        }
        int max = Integer.MAX_VALUE;
        int[][] bad = {{-1, 1}, {0, 0}, {0, 65}, {0, -1}, {1024, 1}, {961, 64}, {max, 64}, {max, max}, {1, max}};
        for (int[] pair : bad) {
            Check.argument("bounce(0, " + pair[0] + ", " + pair[1] + ")", () -> x.bounce(0, pair[0], pair[1]));
        }
        Setup.shows("throws change nothing", x, 0, 9);
        Check.same("no take is sealed", x.take(1, -1), 0);
        Check.same("up to the end", x.bounce(7, 960, 64), 1);
    }
}
