public final class Promise18MeterTest {
    public static void main(String[] args) {
        meters();
        greatest();
        now();
        wrong();
        Check.end();
    }

    private static void shows(String what, StripMixer x, int strip, long peak, long squares, long overs) {
        Check.same(what + ": meter(" + strip + ", 0)", x.meter(strip, 0), peak);
        Check.same(what + ": meter(" + strip + ", 1)", x.meter(strip, 1), squares);
        Check.same(what + ": meter(" + strip + ", 2)", x.meter(strip, 2), overs);
    }

    private static void meters() {
        StripMixer x = Setup.tracks(1, 3, -7, 5, 100);
        shows("without a block", x, 0, 0, 0, 0);
        x.render(0, 3);
        shows("3, -7, 5", x, 0, 7, 83, 0);
        shows("nothing", x, 1, 0, 0, 0);
        shows("the master", x, 7, 7, 83, 0);
        x.fader(0, 512);
        x.drop(0);
        shows("they stay", x, 0, 7, 83, 0);
        x.render(0, 3);
        shows("until the next block", x, 0, 0, 0, 0);

        StripMixer y = Setup.tracks(1, 16383, -16384, 16384, -16385);
        y.fader(0, 512);
        y.render(0, 4);
        shows("32766, -32768, 32768, -32770", y, 0, 32770, 32766L * 32766 + 2L * 32768 * 32768 + 32770L * 32770, 2);
        y.render(3, 1);
        shows("-32770", y, 0, 32770, 32770L * 32770, 1);
        y.render(0, 2);
        y.render(2, 1);
        shows("32768, and no more", y, 0, 32768, 1L << 30, 1);
        y.render(0, 4);
        y.render(1, 1);
        shows("-32768, and no more", y, 0, 32768, 1L << 30, 0);
        StripMixer z = Setup.tracks(3, 32767, -32768);
        z.turn(1, 1);
        z.render(0, 2);
        shows("at the edges", z, 7, 32768, 32767L * 32767 + 32768L * 32768, 0);
    }

    private static void greatest() {
        StripMixer x = Setup.flat(-32768, 1);
        x.shape(0, 1024, 0, 0);
        for (int slot = 0; slot < 3; slot++) {
            x.effect(0, slot, 1, 1024, 0);
        }
        x.fader(0, 1024);
        x.render(0, 64);
        shows("64 times the most", x, 0, 16777216, 1L << 54, 64);
        shows("64 times the most", x, 7, 16777216, 1L << 54, 64);
    }

    private static void now() {
        StripMixer x = new StripMixer();
        x.effect(0, 0, 4, 1, 3);
        x.effect(0, 2, 4, 1, 4);
        x.effect(5, 1, 4, 1, 16);
        Check.same("delay of a track", x.meter(0, 3), 7);
        Check.same("delay of a bus", x.meter(5, 3), 16);
        Check.same("delay of the master", x.meter(7, 3), 16);
        x.send(0, 5, 1);
        Check.same("with a send", x.meter(5, 3), 23);
        Check.same("with a send", x.meter(7, 3), 23);
        x.route(0, 4);
        x.send(0, 5, 0);
        Check.same("with a route", x.meter(4, 3), 7);
        Check.same("without the send", x.meter(5, 3), 16);
        x.route(4, 5);
        Check.same("over two", x.meter(5, 3), 23);
        x.effect(7, 0, 4, 1, 2);
        Check.same("the master's own", x.meter(7, 3), 25);
        x.effect(0, 0, 3, 1, 3);
        Check.same("an ECHO has none", x.meter(0, 3), 4);
        Check.same("a strip without a feed", x.meter(6, 3), 0);
        Check.same("heard", x.meter(0, 4), 1);
        x.turn(0, 1);
        Check.same("not heard", x.meter(0, 4), 0);
        Check.same("the delay of what is not heard", x.meter(0, 3), 4);
        x.render(0, 1);
        x.turn(0, 2);
        Check.same("heard now", x.meter(0, 4), 1);
    }

    private static void wrong() {
        StripMixer x = new StripMixer();
        for (int strip : new int[] {-1, 8, Integer.MIN_VALUE, Integer.MAX_VALUE}) {
            for (int what = 0; what < 5; what++) {
                int meter = what;
                Check.argument("meter(" + strip + ", " + what + ")", () -> x.meter(strip, meter));
            }
        }
        for (int what : new int[] {-1, 5, Integer.MIN_VALUE, Integer.MAX_VALUE}) {
            Check.argument("meter(0, " + what + ")", () -> x.meter(0, what));
        }
    }
}
