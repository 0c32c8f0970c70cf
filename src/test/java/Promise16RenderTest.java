public final class Promise16RenderTest {
    public static void main(String[] args) {
        anyBlock();
        delaysMatch();
        delaysOfSends();
        delaysAddUp();
        sumsAreCut();
        longestWay();
        wrong();
        Check.end();
    }

    private static void anyBlock() {
        StripMixer x = Setup.tracks(1, 1, 2, 3, 4, 5);
        Setup.renders("from 0", x, 7, 0, 1, 2, 3, 4, 5, 0);
        Setup.renders("later", x, 7, 3, 4, 5, 0);
        Setup.renders("earlier again", x, 7, 1, 2);
        x.effect(0, 0, 3, 1, 255);
        x.render(0, 64);
        int at40 = x.sample(0, 40);
        x.render(40, 1);
        Check.same("the same time in another block", x.sample(0, 0), at40);
        x.render(960, 64);
        x.render(0, 64);
        Check.same("memories are 0 before time 0", x.sample(0, 0), 1);
        Check.same("and as before at 40", x.sample(0, 40), at40);
    }

    private static void delaysMatch() {
        StripMixer x = Setup.tracks(3, 100, 10);
        x.effect(0, 1, 4, 100000, 5);
        Setup.renders("both at time 5", x, 7, 0, 0, 0, 0, 0, 0, 200, 20, 0);
        Setup.shows("the track without delay", x, 1, 100, 10, 0);
        Setup.shows("the track with delay", x, 0, 0, 0, 0, 0, 0, 100, 10, 0);
        x.turn(0, 1);
        Setup.renders("a muted one has its delay", x, 7, 0, 0, 0, 0, 0, 0, 100, 10, 0);
        x.turn(0, 2);
        x.route(0, 4);
        x.route(1, 4);
        x.effect(4, 0, 4, 100000, 2);
        Setup.renders("in a bus", x, 4, 0, 0, 0, 0, 0, 0, 0, 0, 200, 20, 0);
        Setup.renders("behind the bus", x, 7, 0, 0, 0, 0, 0, 0, 0, 0, 200, 20, 0);
        x.route(1, 7);
        Setup.renders("one past the bus", x, 7, 0, 0, 0, 0, 0, 0, 0, 0, 200, 20, 0);
    }

    private static void delaysOfSends() {
        StripMixer x = Setup.tracks(3, 100, 10);
        x.effect(0, 0, 4, 100000, 3);
        x.route(1, 5);
        Setup.renders("bus 5 has no delay", x, 5, 0, 100, 10, 0, 0, 0);
        x.send(0, 5, 1);
        Setup.renders("a send brings its delay", x, 5, 0, 0, 0, 0, 100, 10, 0);
        x.send(0, 5, 128);
        Setup.renders("with its level", x, 5, 0, 0, 0, 0, 150, 15, 0);
        x.send(0, 5, 0);
        Setup.renders("with level 0 it brings none", x, 5, 0, 100, 10, 0, 0, 0);
        x.send(1, 4, 512);
        x.effect(4, 0, 4, 100000, 4);
        Setup.renders("three ways", x, 7, 0, 0, 0, 0, 0, 400, 40, 0);
    }

    private static void delaysAddUp() {
        StripMixer x = Setup.tracks(1, 100, 10);
        x.route(0, 6);
        x.route(6, 4);
        x.route(4, 5);
        x.effect(6, 0, 4, 100000, 1);
        x.effect(4, 0, 4, 100000, 2);
        x.effect(5, 0, 4, 100000, 3);
        Setup.renders("over 6, 4 and 5", x, 7, 5, 0, 100, 10, 0);
        x.send(0, 5, 256);
        Setup.renders("and past two", x, 7, 5, 0, 200, 20, 0);
    }

    private static void sumsAreCut() {
        StripMixer x = Setup.tracks(15, 32767, -32768);
        for (int track = 0; track < 4; track++) {
            x.shape(track, 1024, 0, 0);
            for (int slot = 0; slot < 3; slot++) {
                x.effect(track, slot, 1, 1024, 0);
            }
            x.fader(track, 1024);
            x.route(track, 4);
            x.send(track, 4, 1024);
        }
        x.fader(4, 64);
        Setup.renders("cut before the fader", x, 4, 0, 4194304, -4194304, 0);
        Setup.shows("each at its most", x, 3, 16777216, -16777216, 0);
    }

    private static void longestWay() {
        StripMixer x = Setup.tracks(1, 9);
        x.route(0, 4);
        x.route(4, 5);
        x.route(5, 6);
        for (int strip : new int[] {0, 4, 5, 6, 7}) {
            for (int slot = 0; slot < 3; slot++) {
                x.effect(strip, slot, 4, 100000, 16);
            }
        }
        Setup.renders("15 times 16 later", x, 7, 239, 0, 9, 0);
        x.move(0, 0, 1000);
        Setup.renders("behind the end of time", x, 7, 960, new int[64]);
    }

    private static void wrong() {
        StripMixer x = Setup.tracks(1, 9);
        x.render(0, 2);
        int max = Integer.MAX_VALUE;
        int min = Integer.MIN_VALUE;
        int[][] bad = {{-1, 1}, {0, 0}, {0, 65}, {0, -1}, {1024, 1}, {961, 64}, {1023, 2}, {-1, 64},
            {max, 1}, {max, 64}, {0, max}, {max, max}, {min, 1}, {0, min}, {min, min}, {1, max}};
        for (int[] pair : bad) {
            Check.argument("render(" + pair[0] + ", " + pair[1] + ")", () -> x.render(pair[0], pair[1]));
        }
        Setup.shows("throws change nothing", x, 7, 9, 0);
        Check.index("sample(7, 2)", () -> x.sample(7, 2));
        x.render(1023, 1);
        x.render(960, 64);
        x.render(0, 64);
        x.render(0, 1);
    }
}
