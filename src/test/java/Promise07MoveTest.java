public final class Promise07MoveTest {
    public static void main(String[] args) {
        StripMixer x = new StripMixer();
        Setup.seal(x, 0, 1, 2, 3, 4);
        x.clip(0, 0, 0, 0, 4);
        x.clip(0, 10, 0, 1, 2);
        x.shape(0, 512, 0, 0);
        Check.same("over its own place", x.move(0, 0, 2), true);
        Setup.renders("moved by 2", x, 0, 0, 0, 0, 2, 4, 6, 8, 0, 0, 0, 0, 2, 3, 0);
        Check.same("over the other's first", x.move(0, 0, 7), false);
        Check.same("over the other's last", x.move(0, 0, 11), false);
        Setup.renders("false changes nothing", x, 0, 0, 0, 0, 2, 4, 6, 8, 0, 0, 0, 0, 2, 3, 0);
        Check.same("just before", x.move(0, 0, 6), true);
        Check.same("just behind", x.move(0, 0, 12), true);
        Check.same("to where it is", x.move(0, 0, 12), true);
        Check.same("to another track", x.move(0, 3, 10), true);
        Setup.renders("gone from track 0", x, 0, 10, 2, 3, 0, 0, 0);
        Setup.shows("on track 3", x, 3, 2, 4, 6, 8, 0);
        Check.same("to the beginning", x.move(0, 3, 0), true);
        Setup.renders("at the beginning", x, 3, 0, 2, 4, 6, 8, 0);
        Check.same("to the end", x.move(0, 3, 1020), true);
        Setup.renders("at the end", x, 3, 1019, 0, 2, 4, 6, 8);

        for (int at : new int[] {-1, 1021, 1024, Integer.MIN_VALUE, Integer.MAX_VALUE}) {
            Check.argument("at " + at, () -> x.move(0, 0, at));
        }
        for (int track : new int[] {-1, 4, Integer.MIN_VALUE, Integer.MAX_VALUE}) {
            Check.argument("track " + track, () -> x.move(0, track, 0));
        }
        for (int c : new int[] {-1, 2, 16, Integer.MIN_VALUE, Integer.MAX_VALUE}) {
            Check.element("clip " + c, () -> x.move(c, 0, 100));
            Check.element("clip " + c + ", wrong", () -> x.move(c, 4, -1));
        }
        Setup.renders("throws change nothing", x, 3, 1019, 0, 2, 4, 6, 8);
        Check.end();
    }
}
