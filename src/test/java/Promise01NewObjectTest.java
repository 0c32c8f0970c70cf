public final class Promise01NewObjectTest {
    public static void main(String[] args) {
        Check.same("NONE", StripMixer.NONE, -1);
        takesAreOpen(new StripMixer(), 0);
        takesAreOpen(new StripMixer(), 4);
        nothingStands(new StripMixer());
        allIsRoutedToTheMaster();
        levelsAreFull();
        Check.end();
    }

    private static void takesAreOpen(StripMixer x, int first) {
        for (int t = first; t < first + 4; t++) {
            Check.same("take(" + t + ", -1)", x.take(t, -1), 0);
            for (int i = 0; i < 64; i++) {
                Check.same("take(" + t + ", " + i + ")", x.take(t, i), 0);
            }
        }
    }

    private static void nothingStands(StripMixer x) {
        for (int c = 0; c < 16; c++) {
            int clip = c;
            Check.element("drop(" + c + ")", () -> x.drop(clip));
        }
        for (int s = 0; s < 8; s++) {
            int strip = s;
            Check.index("sample(" + s + ", 0)", () -> x.sample(strip, 0));
            for (int what = 0; what < 4; what++) {
                Check.same("meter(" + s + ", " + what + ")", x.meter(s, what), 0);
            }
            Check.same("meter(" + s + ", 4)", x.meter(s, 4), 1);
            Check.same("turn(" + s + ", 0)", x.turn(s, 0), 0);
            Check.same("turn(" + s + ", 2)", x.turn(s, 2), 0);
            Check.same("turn(" + s + ", 4)", x.turn(s, 4), 0);
        }
    }

    private static void allIsRoutedToTheMaster() {
        for (int track = 0; track < 4; track++) {
            Setup.renders("track " + track, Setup.tracks(1 << track, 5, -6), 7, 0, 5, -6, 0);
        }
        for (int bus = 4; bus < 7; bus++) {
            StripMixer x = Setup.tracks(1, 5, -6);
            Setup.renders("nothing is sent", x, bus, 0, 0, 0);
            x.route(0, bus);
            Setup.renders("bus " + bus, x, 7, 0, 5, -6, 0);
        }
    }

    private static void levelsAreFull() {
        StripMixer x = Setup.tracks(1, 5, -6, 32767, -32768);
        Setup.renders("clip and fader", x, 0, 0, 5, -6, 32767, -32768);
    }
}
