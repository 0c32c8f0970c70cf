public final class Promise12EffectTest {
    private static final int GAIN = 1;
    private static final int SMOOTH = 2;
    private static final int ECHO = 3;
    private static final int LIMIT = 4;
    private static final int GATE = 5;
    private static final int CLAMP = 6;
    private static final int MIN = Integer.MIN_VALUE;
    private static final int MAX = Integer.MAX_VALUE;

    public static void main(String[] args) {
        gain();
        smooth();
        echo();
        limit();
        gate();
        clamp();
        slots();
        cuts();
        ranges();
        wrongPlaces();
        Check.end();
    }

    private static void gain() {
        StripMixer x = Setup.tracks(1, 101, -101, 1, -1);
        x.effect(0, 0, GAIN, 128, 0);
        Setup.renders("GAIN 128", x, 0, 0, 50, -51, 0, -1, 0);
        x.effect(0, 0, GAIN, 1024, 0);
        Setup.renders("GAIN 1024", x, 0, 0, 404, -404, 4, -4, 0);
        x.effect(0, 0, GAIN, 0, 0);
        Setup.renders("GAIN 0", x, 0, 0, 0, 0, 0, 0, 0);
    }

    private static void smooth() {
        StripMixer x = Setup.tracks(1, 100, 100, 100, -100);
        x.effect(0, 0, SMOOTH, 64, 0);
        Setup.renders("SMOOTH 64", x, 0, 0, 25, 43, 57, 17, 12, 9, 6);
        Setup.renders("SMOOTH 64, from 3 on", x, 0, 3, 17, 12, 9, 6);
        x.effect(0, 0, SMOOTH, 0, 0);
        Setup.renders("SMOOTH 0", x, 0, 0, 0, 0, 0, 0, 0);
        x.effect(0, 0, SMOOTH, 256, 0);
        Setup.renders("SMOOTH 256", x, 0, 0, 100, 100, 100, -100, 0);
    }

    private static void echo() {
        StripMixer x = Setup.tracks(1, 100, 0, 0, -51);
        x.effect(0, 0, ECHO, 2, 128);
        Setup.renders("ECHO 2, 128", x, 0, 0, 100, 0, 50, -51, 25, -26, 12, -13, 6, -7);
        Setup.renders("ECHO 2, 128, from 6 on", x, 0, 6, 12, -13, 6, -7);
        x.effect(0, 0, ECHO, 1, 255);
        Setup.renders("ECHO 1, 255", x, 0, 0, 100, 99, 98, 46, 45);
        x.effect(0, 0, ECHO, 32, 128);
        Setup.renders("ECHO 32, 128", x, 0, 31, 0, 50, 0, 0, -26, 0);
        Setup.renders("ECHO 32, 128, twice", x, 0, 63, 0, 25, 0, 0, -13, 0);
        x.effect(0, 0, ECHO, 1, 0);
        Setup.renders("ECHO 1, 0", x, 0, 0, 100, 0, 0, -51, 0);
    }

    private static void limit() {
        StripMixer x = Setup.tracks(1, 50, -200, 100, -101, 100);
        x.effect(0, 0, LIMIT, 100, 0);
        Setup.renders("LIMIT 100, 0", x, 0, 0, 50, -100, 100, -100, 100, 0);
        Check.same("delay of LIMIT 100, 0", x.meter(0, 3), 0);
        StripMixer y = Setup.tracks(1, -33, 250, 7, -7, 3);
        y.effect(0, 0, LIMIT, 100, 1);
        Setup.renders("LIMIT 100, 1", y, 0, 0, 0, -13, 100, 7, -7, 3, 0);
        y.effect(0, 0, LIMIT, 100, 3);
        Setup.renders("LIMIT 100, 3", y, 0, 0, 0, 0, 0, -13, 100, 7, -7, 3, 0);
        y.effect(0, 0, LIMIT, 1, 16);
        Setup.renders("LIMIT 1, 16", y, 0, 14, 0, 0, 0, 1, 1, -1, 1, 0);
        Check.same("delay of LIMIT 1, 16", y.meter(0, 3), 16);
        y.effect(0, 0, LIMIT, 100000, 2);
        Setup.renders("LIMIT 100000, 2", y, 0, 0, 0, 0, -33, 250, 7, -7, 3, 0);
    }

    private static void gate() {
        StripMixer x = Setup.tracks(1, 10, 60, 20, -10, 30, 5, -50, 1, 49);
        x.effect(0, 0, GATE, 50, 2);
        Setup.renders("GATE 50, 2", x, 0, 0, 0, 60, 20, -10, 0, 0, -50, 1, 49, 0);
        x.effect(0, 0, GATE, 50, 0);
        Setup.renders("GATE 50, 0", x, 0, 0, 0, 60, 0, 0, 0, 0, -50, 0, 0, 0);
        x.effect(0, 0, GATE, 0, 0);
        Setup.renders("GATE 0, 0", x, 0, 0, 10, 60, 20, -10, 30, 5, -50, 1, 49, 0);
        x.effect(0, 0, GATE, 60, 64);
        Setup.renders("GATE 60, 64", x, 0, 0, 0, 60, 20, -10, 30, 5, -50, 1, 49, 0);
        StripMixer y = Setup.flat(9, 2);
        y.drop(0);
        Setup.seal(y, 1, 60);
        y.clip(0, 0, 1, 0, 1);
        y.effect(0, 0, GATE, 60, 64);
        Setup.renders("GATE 60, 64 closes behind 64 more", y, 0, 62, 0, 0, 9, 0, 0);
    }

    private static void clamp() {
        StripMixer x = Setup.tracks(1, 60, -60, 50, -51, 49);
        x.effect(0, 0, CLAMP, 50, 0);
        Setup.renders("CLAMP 50", x, 0, 0, 50, -50, 50, -50, 49, 0);
        x.effect(0, 0, CLAMP, 0, 0);
        Setup.renders("CLAMP 0", x, 0, 0, 0, 0, 0, 0, 0, 0);
        x.effect(0, 0, CLAMP, 100000, 0);
        Setup.renders("CLAMP 100000", x, 0, 0, 60, -60, 50, -51, 49, 0);
    }

    private static void slots() {
        StripMixer x = Setup.tracks(1, 100, -100);
        x.effect(0, 2, GAIN, 512, 0);
        x.effect(0, 0, CLAMP, 60, 0);
        Setup.renders("CLAMP, then GAIN", x, 0, 0, 120, -120);
        x.effect(0, 0, GAIN, 512, 0);
        x.effect(0, 2, CLAMP, 60, 0);
        Setup.renders("GAIN, then CLAMP", x, 0, 0, 60, -60);
        x.effect(0, 1, GAIN, 64, 0);
        Setup.renders("GAIN, GAIN, then CLAMP", x, 0, 0, 50, -50);
        x.effect(0, 0, 0, 0, 0);
        Setup.renders("without the first", x, 0, 0, 25, -25);
        x.effect(0, 1, 0, MIN, MAX);
        Setup.renders("CLAMP alone", x, 0, 0, 60, -60);
        x.effect(0, 2, 0, -1, -1);
        Setup.renders("none", x, 0, 0, 100, -100);
        x.effect(7, 1, GAIN, 512, 0);
        Setup.renders("in the master", x, 7, 0, 200, -200);
        x.effect(0, 0, LIMIT, 1000, 3);
        x.effect(0, 1, LIMIT, 1000, 4);
        x.effect(0, 2, LIMIT, 1000, 5);
        Check.same("delays of three", x.meter(0, 3), 12);
        Setup.renders("three delays", x, 7, 11, 0, 200, -200, 0);
        x.effect(0, 1, GAIN, 256, 4);
        Check.same("delays of two", x.meter(0, 3), 8);
    }

    /** What goes out of track 0 is as small as can be, then cut in all places of bus 4. */
    private static void cuts() {
        StripMixer x = Setup.tracks(1, -32768, -32768);
        x.shape(0, 1024, 0, 0);
        for (int slot = 0; slot < 3; slot++) {
            x.effect(0, slot, GAIN, 1024, 0);
        }
        Setup.renders("before the fader", x, 0, 0, -8388608, -8388608, 0);
        x.fader(0, 1024);
        Setup.renders("cut behind the fader", x, 0, 0, -16777216, -16777216, 0);
        x.route(0, 4);
        x.effect(4, 0, ECHO, 1, 255);
        Setup.renders("a cut ECHO", x, 4, 0, -16777216, -16777216, -16711680, -16646400);
        x.effect(4, 0, GAIN, 1024, 0);
        x.effect(4, 1, GAIN, 64, 0);
        Setup.renders("a cut GAIN", x, 4, 0, -4194304, -4194304, 0);
        x.effect(4, 1, SMOOTH, 128, 0);
        Setup.renders("SMOOTH far out", x, 4, 0, -8388608, -12582912, -6291456);
        x.effect(4, 0, LIMIT, 100000, 1);
        x.effect(4, 1, 0, 0, 0);
        Setup.renders("LIMIT far out", x, 4, 0, 0, -100000, -100000, 0);
        x.effect(4, 0, CLAMP, 100000, 1);
        Setup.renders("CLAMP far out", x, 4, 0, -100000, -100000, 0);
        x.effect(4, 0, GATE, 100000, 0);
        Setup.renders("GATE far out", x, 4, 0, -16777216, -16777216, 0);
    }

    private static void ranges() {
        range(GAIN, new int[][] {{0, 0}, {1024, MIN}, {5, MAX}}, new int[][] {{-1, 0}, {1025, 0}, {MIN, 0}, {MAX, 0}});
        range(SMOOTH, new int[][] {{0, 0}, {256, MIN}, {5, MAX}}, new int[][] {{-1, 0}, {257, 0}, {MIN, 0}, {MAX, 0}});
        range(ECHO, new int[][] {{1, 0}, {32, 255}},
            new int[][] {{0, 0}, {33, 0}, {-1, 0}, {MAX, 0}, {1, -1}, {1, 256}, {1, MIN}, {1, MAX}});
        range(LIMIT, new int[][] {{1, 0}, {100000, 16}},
            new int[][] {{0, 0}, {100001, 0}, {-1, 0}, {MAX, 0}, {1, -1}, {1, 17}, {1, MIN}, {1, MAX}});
        range(GATE, new int[][] {{0, 0}, {100000, 64}},
            new int[][] {{-1, 0}, {100001, 0}, {MIN, 0}, {MAX, 0}, {0, -1}, {0, 65}, {0, MIN}, {0, MAX}});
        range(CLAMP, new int[][] {{0, MIN}, {100000, MAX}}, new int[][] {{-1, 0}, {100001, 0}, {MIN, 0}, {MAX, 0}});
    }

    private static void range(int kind, int[][] good, int[][] bad) {
        StripMixer x = Setup.tracks(1, 100, -100);
        x.effect(0, 0, GAIN, 512, 0);
        for (int[] pq : bad) {
            Check.argument("kind " + kind + ": " + pq[0] + ", " + pq[1], () -> x.effect(0, 0, kind, pq[0], pq[1]));
        }
        Setup.renders("throws change nothing", x, 0, 0, 200, -200);
        for (int[] pq : good) {
            x.effect(0, 0, kind, pq[0], pq[1]);
            x.render(0, 64);
        }
    }

    private static void wrongPlaces() {
        StripMixer x = new StripMixer();
        for (int strip : new int[] {-1, 8, MIN, MAX}) {
            Check.argument("strip " + strip, () -> x.effect(strip, 0, GAIN, 0, 0));
            Check.argument("strip " + strip + ", kind 0", () -> x.effect(strip, 0, 0, 0, 0));
        }
        for (int slot : new int[] {-1, 3, MIN, MAX}) {
            Check.argument("slot " + slot, () -> x.effect(0, slot, GAIN, 0, 0));
            Check.argument("slot " + slot + ", kind 0", () -> x.effect(0, slot, 0, 0, 0));
        }
        for (int kind : new int[] {-1, 7, MIN, MAX}) {
            Check.argument("kind " + kind, () -> x.effect(0, 0, kind, 1, 1));
        }
    }
}
