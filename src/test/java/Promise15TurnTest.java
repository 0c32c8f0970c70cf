public final class Promise15TurnTest {
    public static void main(String[] args) {
        answers();
        mutes();
        solos();
        soloAlongTheWay();
        wrong();
        Check.end();
    }

    private static void answers() {
        StripMixer x = new StripMixer();
        for (int strip = 0; strip < 8; strip++) {
            int[][] due = {{2, 0}, {1, 1}, {1, 0}, {4, 0}, {3, 1}, {3, 0}, {2, 1}, {2, 0}, {4, 1}, {4, 0}, {0, 0}};
            for (int[] pair : due) {
                Check.same("turn(" + strip + ", " + pair[0] + ")", x.turn(strip, pair[0]), pair[1]);
            }
        }
        x.point(3, 5, 5, false);
        x.point(3, 6, 5, false);
        Check.same("two points", x.turn(3, 0), 2);
        Check.same("no points any more", x.turn(3, 0), 0);
    }

    private static void heard(String what, StripMixer x, String due) {
        StringBuilder got = new StringBuilder();
        for (int strip = 0; strip < 8; strip++) {
            got.append(x.meter(strip, 4));
        }
        Check.same(what + ": heard", got.toString(), due);
    }

    private static void mutes() {
        StripMixer x = Setup.tracks(3, 10, 20);
        x.turn(0, 1);
        heard("0 is muted", x, "01111111");
        Setup.renders("muted", x, 0, 0, 0, 0);
        Setup.shows("the other one", x, 7, 10, 20);
        x.turn(7, 1);
        heard("7 is muted", x, "01111110");
        Setup.renders("no master", x, 7, 0, 0, 0);
        Setup.shows("the other one goes out", x, 1, 10, 20);
        x.turn(7, 2);
        x.turn(0, 2);
        Setup.renders("all again", x, 7, 0, 20, 40);
        x.turn(4, 1);
        x.route(0, 4);
        x.send(0, 5, 256);
        Setup.renders("past the muted bus", x, 7, 0, 20, 40);
    }

    private static void solos() {
        StripMixer x = Setup.tracks(15, 1, 2);
        x.turn(2, 3);
        heard("2 is solo", x, "00100001");
        Setup.renders("2 alone", x, 7, 0, 1, 2);
        x.turn(0, 3);
        heard("0 and 2 are solo", x, "10100001");
        Setup.renders("0 and 2", x, 7, 0, 2, 4);
        x.turn(0, 1);
        heard("0 is solo and muted", x, "00100001");
        x.turn(2, 4);
        heard("only a muted one is solo", x, "00000001");
        x.turn(0, 4);
        heard("none is solo", x, "01111111");
        x.turn(7, 3);
        heard("the master is solo", x, "01111111");
        x.turn(7, 4);
    }

    private static void soloAlongTheWay() {
        StripMixer x = Setup.tracks(7, 1, 2);
        x.route(0, 4);
        x.route(4, 5);
        x.send(1, 4, 128);
        x.turn(4, 3);
        heard("the bus is solo", x, "11001101");
        x.send(1, 4, 0);
        heard("without the send", x, "10001101");
        x.turn(4, 4);
        x.turn(5, 3);
        heard("the far bus is solo", x, "10001101");
        x.turn(5, 4);
        x.turn(0, 3);
        heard("the track is solo", x, "10001101");
        x.turn(4, 1);
        heard("the bus between is muted", x, "10000101");
        Setup.renders("nothing comes through", x, 7, 0, 0, 0);
    }

    private static void wrong() {
        StripMixer x = new StripMixer();
        for (int strip : new int[] {-1, 8, Integer.MIN_VALUE, Integer.MAX_VALUE}) {
            Check.argument("strip " + strip, () -> x.turn(strip, 1));
            Check.argument("strip " + strip, () -> x.turn(strip, 0));
        }
        for (int what : new int[] {-1, 5, Integer.MIN_VALUE, Integer.MAX_VALUE}) {
            Check.argument("what " + what, () -> x.turn(0, what));
        }
        heard("throws change nothing", x, "11111111");
    }
}
