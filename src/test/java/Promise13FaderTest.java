public final class Promise13FaderTest {
    public static void main(String[] args) {
        StripMixer x = Setup.tracks(1, 101, -101);
        x.fader(0, 128);
        Setup.renders("half, rounded down", x, 0, 0, 50, -51);
        x.fader(0, 1024);
        Setup.renders("four times", x, 0, 0, 404, -404);
        x.fader(7, 64);
        Setup.renders("the master's own", x, 7, 0, 101, -101);
        Setup.shows("not the track's", x, 0, 404, -404);
        x.fader(0, 0);
        Setup.renders("0", x, 0, 0, 0, 0);
        x.fader(0, 256);
        x.effect(0, 0, 6, 60, 0);
        x.fader(0, 512);
        Setup.renders("behind the effects", x, 0, 0, 120, -120);

        for (int strip : new int[] {-1, 8, Integer.MIN_VALUE, Integer.MAX_VALUE}) {
            Check.argument("fader(" + strip + ", 0)", () -> x.fader(strip, 0));
        }
        for (int level : new int[] {-1, 1025, Integer.MIN_VALUE, Integer.MAX_VALUE}) {
            Check.argument("fader(0, " + level + ")", () -> x.fader(0, level));
        }
        Setup.renders("throws change nothing", x, 0, 0, 120, -120);
        Check.end();
    }
}
