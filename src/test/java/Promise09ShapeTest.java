public final class Promise09ShapeTest {
    private static final int MAX = Integer.MAX_VALUE;

    public static void main(String[] args) {
        levels();
        fades();
        wrong();
        Check.end();
    }

    private static void levels() {
        StripMixer x = Setup.tracks(1, 100, -100, 1, -1, 32767, -32768);
        x.shape(0, 128, 0, 0);
        Setup.renders("rounded down", x, 0, 0, 50, -50, 0, -1, 16383, -16384);
        x.shape(0, 1024, 0, 0);
        Setup.renders("four times", x, 0, 0, 400, -400, 4, -4, 131068, -131072);
        x.shape(0, 1, 0, 0);
        Setup.renders("a 256th", x, 0, 0, 0, -1, 0, -1, 127, -128);
        x.shape(0, 0, 0, 0);
        Setup.renders("nothing", x, 0, 0, 0, 0, 0, 0, 0, 0);
    }

    private static void fades() {
        StripMixer x = Setup.tracks(1, 100, -100, 100, -100, 100, -100);
        x.shape(0, 256, 2, 3);
        Setup.renders("IN 2, OUT 3", x, 0, 0, 33, -67, 100, -75, 50, -25);
        x.shape(0, 256, 6, 0);
        Setup.renders("IN 6", x, 0, 0, 14, -29, 42, -58, 71, -86);
        x.shape(0, 256, 0, 6);
        Setup.renders("OUT 6", x, 0, 0, 85, -72, 57, -43, 28, -15);
        x.shape(0, 128, 1, 1);
        Setup.renders("level, then fades", x, 0, 0, 25, -50, 50, -50, 50, -25);
        x.shape(0, 256, 0, 0);
        Setup.renders("no fades", x, 0, 0, 100, -100, 100, -100, 100, -100);
    }

    private static void wrong() {
        StripMixer x = Setup.tracks(1, 100, 100, 100);
        for (int level : new int[] {-1, 1025, Integer.MIN_VALUE, MAX}) {
            Check.argument("level " + level, () -> x.shape(0, level, 0, 0));
        }
        int[][] bad = {{-1, 0}, {0, -1}, {4, 0}, {0, 4}, {2, 2}, {-1, 4}, {4, -1},
            {MAX, 1}, {1, MAX}, {MAX, MAX}, {Integer.MIN_VALUE, 0}, {0, Integer.MIN_VALUE}};
        for (int[] pair : bad) {
            Check.argument("fades " + pair[0] + ", " + pair[1], () -> x.shape(0, 256, pair[0], pair[1]));
        }
        Setup.renders("throws change nothing", x, 0, 0, 100, 100, 100);
        x.shape(0, 256, 1, 2);
        x.shape(0, 256, 3, 0);
        x.shape(0, 256, 0, 3);
        for (int c : new int[] {-1, 1, 16, Integer.MIN_VALUE, MAX}) {
            Check.element("clip " + c, () -> x.shape(c, 256, 0, 0));
            Check.element("clip " + c + ", wrong", () -> x.shape(c, -1, 0, 0));
        }
    }
}
