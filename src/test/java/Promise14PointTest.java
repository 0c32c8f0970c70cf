public final class Promise14PointTest {
    public static void main(String[] args) {
        joined();
        falling();
        replaced();
        eight();
        delayed();
        atTheEnd();
        wrong();
        Check.end();
    }

    /** What goes out of a strip of samples 256 is the level. */
    private static void levels(String what, StripMixer x, int... due) {
        for (int step = 0; step < due.length; step++) {
            x.render(16 * step, 16);
            Check.same(what + ": step " + step + ", first", x.sample(0, 0), due[step]);
            Check.same(what + ": step " + step + ", last", x.sample(0, 15), due[step]);
        }
    }

    private static void joined() {
        StripMixer x = Setup.flat(256, 2);
        x.fader(0, 77);
        levels("the fader", x, 77, 77, 77);
        Check.same("point(0, 60, 300, true)", x.point(0, 60, 300, true), true);
        levels("one point", x, 300, 300, 300, 300, 300);
        Check.same("point(0, 20, 100, true)", x.point(0, 20, 100, true), true);
        levels("two points", x, 100, 100, 160, 240, 300, 300);
        Check.same("point(0, 112, 0, false)", x.point(0, 112, 0, false), true);
        levels("three points", x, 100, 100, 160, 240, 276, 184, 92, 0);
        Check.same("turn(0, 0)", x.turn(0, 0), 3);
        levels("the fader again", x, 77, 77, 77);
    }

    private static void falling() {
        StripMixer x = Setup.flat(256, 2);
        x.point(0, 61, 100, false);
        x.point(0, 20, 300, true);
        levels("falling, rounded down", x, 300, 300, 241, 163, 100);
        x.point(0, 20, 300, false);
        levels("not joined", x, 300, 300, 300, 300, 100);
        x.point(0, 16, 0, false);
        levels("a point at a step's first time", x, 0, 0, 300, 300, 100);
        x.point(0, 33, 1024, true);
        levels("a point behind a step's first time", x, 0, 0, 300, 529, 100);
    }

    private static void replaced() {
        StripMixer x = Setup.flat(256, 1);
        x.point(0, 10, 100, false);
        x.point(0, 30, 200, false);
        Check.same("in place of one", x.point(0, 10, 0, true), true);
        levels("replaced", x, 0, 60, 200);
        Check.same("how many there are", x.turn(0, 0), 2);
    }

    private static void eight() {
        StripMixer x = Setup.flat(256, 3);
        for (int i = 7; i >= 0; i--) {
            Check.same("point " + i, x.point(0, 16 * i, 10 * i, false), true);
        }
        levels("in the order of time", x, 0, 10, 20, 30, 40, 50, 60, 70, 70);
        Check.same("a ninth at the end", x.point(0, 1023, 1, false), false);
        Check.same("a ninth between", x.point(0, 17, 1, false), false);
        levels("false changes nothing", x, 0, 10, 20, 30, 40, 50, 60, 70, 70);
        Check.same("in place of the first", x.point(0, 0, 99, false), true);
        Check.same("in place of the last", x.point(0, 112, 98, false), true);
        levels("replaced", x, 99, 10, 20, 30, 40, 50, 60, 98, 98);
        Check.same("another strip", x.point(1, 17, 1, false), true);
        Check.same("turn(0, 0)", x.turn(0, 0), 8);
        Check.same("turn(1, 0)", x.turn(1, 0), 1);
    }

    /** The fader follows the strip's own time, whatever the delay of what comes in. */
    private static void delayed() {
        StripMixer x = Setup.flat(256, 1);
        x.effect(0, 0, 4, 100000, 8);
        x.point(0, 16, 0, false);
        x.point(0, 32, 128, false);
        x.point(0, 0, 512, false);
        x.render(0, 64);
        Check.same("before the delay", x.sample(0, 7), 0);
        Check.same("behind the delay", x.sample(0, 8), 512);
        Check.same("step 0, last", x.sample(0, 15), 512);
        Check.same("step 1, first", x.sample(0, 16), 0);
        Check.same("step 1, last", x.sample(0, 31), 0);
        Check.same("step 2, first", x.sample(0, 32), 128);
    }

    private static void atTheEnd() {
        StripMixer x = new StripMixer();
        Setup.seal(x, 0, 256, 256, 256, 256, 256, 256, 256, 256);
        x.clip(0, 1016, 0, 0, 8);
        x.point(0, 1023, 1024, false);
        x.point(0, 0, 0, true);
        Setup.renders("the last step", x, 0, 1015, 0, 1008, 1008, 1008, 1008, 1008, 1008, 1008, 1008);
    }

    private static void wrong() {
        StripMixer x = new StripMixer();
        for (int bad : new int[] {-1, 8, Integer.MIN_VALUE, Integer.MAX_VALUE}) {
            Check.argument("strip " + bad, () -> x.point(bad, 0, 0, false));
        }
        for (int bad : new int[] {-1, 1024, Integer.MIN_VALUE, Integer.MAX_VALUE}) {
            Check.argument("time " + bad, () -> x.point(0, bad, 0, false));
        }
        for (int bad : new int[] {-1, 1025, Integer.MIN_VALUE, Integer.MAX_VALUE}) {
            Check.argument("level " + bad, () -> x.point(0, 0, bad, true));
        }
        Check.same("turn(0, 0)", x.turn(0, 0), 0);
        Check.same("the master has points too", x.point(7, 0, 1024, true), true);
        Check.same("turn(7, 0)", x.turn(7, 0), 1);
    }
}
