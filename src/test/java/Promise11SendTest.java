public final class Promise11SendTest {
    public static void main(String[] args) {
        levels();
        rings();
        StripMixer x = new StripMixer();
        for (int strip : new int[] {-1, 7, 8, Integer.MIN_VALUE, Integer.MAX_VALUE}) {
            Check.argument("send(" + strip + ", 4, 1)", () -> x.send(strip, 4, 1));
        }
        for (int bus : new int[] {-1, 0, 3, 7, 8, Integer.MIN_VALUE, Integer.MAX_VALUE}) {
            Check.argument("send(0, " + bus + ", 1)", () -> x.send(0, bus, 1));
        }
        for (int level : new int[] {-1, 1025, Integer.MIN_VALUE, Integer.MAX_VALUE}) {
            Check.argument("send(0, 4, " + level + ")", () -> x.send(0, 4, level));
            Check.argument("send(4, 4, " + level + ")", () -> x.send(4, 4, level));
        }
        Check.end();
    }

    private static void levels() {
        StripMixer x = Setup.tracks(1, 101, -101);
        Check.same("send(0, 4, 1)", x.send(0, 4, 1), true);
        Setup.renders("a 256th, rounded down", x, 4, 0, 0, -1);
        Check.same("send(0, 4, 128)", x.send(0, 4, 128), true);
        Setup.renders("half, rounded down", x, 4, 0, 50, -51);
        Setup.shows("straight and over the bus", x, 7, 151, -152);
        Check.same("send(0, 4, 1024)", x.send(0, 4, 1024), true);
        Setup.renders("four times", x, 4, 0, 404, -404);
        x.fader(0, 512);
        Setup.renders("what goes out is sent", x, 4, 0, 808, -808);
        x.fader(0, 256);
        x.route(0, 4);
        Setup.renders("routed and sent", x, 4, 0, 505, -505);
        Check.same("send(0, 5, 256)", x.send(0, 5, 256), true);
        Check.same("send(0, 6, 512)", x.send(0, 6, 512), true);
        Setup.renders("to three buses", x, 7, 0, 808, -808);
        Setup.shows("bus 5", x, 5, 101, -101);
        Setup.shows("bus 6", x, 6, 202, -202);
        Check.same("send(0, 4, 0)", x.send(0, 4, 0), true);
        Setup.renders("routed alone", x, 4, 0, 101, -101);
        Check.same("send(4, 6, 256)", x.send(4, 6, 256), true);
        Setup.renders("a bus sends too", x, 6, 0, 303, -303);
    }

    private static void rings() {
        StripMixer x = new StripMixer();
        Check.same("send(4, 4, 1)", x.send(4, 4, 1), false);
        Check.same("send(4, 4, 0)", x.send(4, 4, 0), true);
        Check.same("send(4, 5, 1)", x.send(4, 5, 1), true);
        Check.same("send(5, 6, 1)", x.send(5, 6, 1), true);
        Check.same("send(6, 4, 1), a ring of three", x.send(6, 4, 1), false);
        Check.same("send(5, 4, 1), a ring of two", x.send(5, 4, 1), false);
        Check.same("send(5, 4, 0)", x.send(5, 4, 0), true);
        Check.same("send(4, 6, 1024)", x.send(4, 6, 1024), true);
        Check.same("send(4, 5, 0)", x.send(4, 5, 0), true);
        Check.same("send(5, 4, 1), no ring now", x.send(5, 4, 1), true);
        Check.same("route(6, 5), a ring over a send", x.route(6, 5), false);
        Check.same("send(5, 6, 0)", x.send(5, 6, 0), true);
        Check.same("route(6, 5), a ring over two sends", x.route(6, 5), false);
        Check.same("send(4, 6, 0)", x.send(4, 6, 0), true);
        Check.same("route(6, 5), no ring now", x.route(6, 5), true);
        Check.same("send(4, 6, 1), a ring over a route", x.send(4, 6, 1), false);
    }
}
