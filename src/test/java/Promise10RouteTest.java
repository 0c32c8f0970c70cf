public final class Promise10RouteTest {
    public static void main(String[] args) {
        StripMixer x = Setup.tracks(1, 8, -8);
        Check.same("route(0, 4)", x.route(0, 4), true);
        x.fader(4, 512);
        Setup.renders("only over bus 4", x, 7, 0, 16, -16);
        Check.same("route(0, 4) again", x.route(0, 4), true);
        Check.same("route(4, 4)", x.route(4, 4), false);
        Check.same("route(4, 6)", x.route(4, 6), true);
        Check.same("route(6, 5)", x.route(6, 5), true);
        x.fader(5, 512);
        x.fader(6, 512);
        Setup.renders("over 4, 6 and 5", x, 7, 0, 64, -64);
        Check.same("route(6, 4), a ring of two", x.route(6, 4), false);
        Check.same("route(5, 4), a ring of three", x.route(5, 4), false);
        Check.same("route(5, 6)", x.route(5, 6), false);
        Setup.renders("false changes nothing", x, 7, 0, 64, -64);
        Check.same("route(4, 7)", x.route(4, 7), true);
        Setup.renders("over 4 alone", x, 7, 0, 16, -16);
        Check.same("route(5, 4), no ring now", x.route(5, 4), true);
        Check.same("route(4, 6), a ring over two routes", x.route(4, 6), false);
        Check.same("route(0, 7)", x.route(0, 7), true);
        Setup.renders("straight", x, 7, 0, 8, -8);
        sendsCountToo();
        for (int strip : new int[] {-1, 7, 8, Integer.MIN_VALUE, Integer.MAX_VALUE}) {
            Check.argument("route(" + strip + ", 7)", () -> x.route(strip, 7));
        }
        for (int to : new int[] {-1, 0, 3, 8, Integer.MIN_VALUE, Integer.MAX_VALUE}) {
            Check.argument("route(0, " + to + ")", () -> x.route(0, to));
            Check.argument("route(4, " + to + ")", () -> x.route(4, to));
        }
        Check.end();
    }

    private static void sendsCountToo() {
        StripMixer x = new StripMixer();
        x.send(5, 4, 1);
        Check.same("a ring over a send", x.route(4, 5), false);
        x.send(5, 4, 0);
        Check.same("a send with level 0 feeds nothing", x.route(4, 5), true);
    }
}
