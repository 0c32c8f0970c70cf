/** The boundary cases that promise 13 names. */
public final class Edge13FaderTest {
    public static void main(String[] args) {
        levels();
        strip();
        noLevel();
        Check.end();
    }

    /** "A LEVEL is 0 .. 1024", "rounded down" */
    private static void levels() {
        for (int strip : new int[] {0, 7}) {
            StripMixer x = Setup.tracks(1, 257, -257, 1, -1);
            Ask.done(x, "fader", strip, 0);
            Setup.renders("level 0", x, strip, 0, 0, 0, 0, 0, 0);
            Ask.done(x, "fader", strip, 1);
            Setup.renders("level 1", x, strip, 0, 1, -2, 0, -1, 0);
            Ask.done(x, "fader", strip, 255);
            Setup.renders("level 255", x, strip, 0, 255, -256, 0, -1, 0);
            Ask.done(x, "fader", strip, 1024);
            Setup.renders("level 1024", x, strip, 0, 1028, -1028, 4, -4, 0);
            Ask.done(x, "fader", strip, 256);
            Setup.renders("level 256", x, strip, 0, 257, -257, 1, -1, 0);
        }
    }

    /** "IllegalArgumentException: strip is not 0 .. 7" */
    private static void strip() {
        for (int strip : Edges.outside(0, 7)) {
            Refused.NEW.argument("fader", strip, 0);
            Refused.BUSY.argument("fader", strip, 1024);
        }
    }

    /** "or level no level" */
    private static void noLevel() {
        for (int level : Edges.outside(0, 1024)) {
            for (int strip : new int[] {0, 1, 7}) {
                Refused.NEW.argument("fader", strip, level);
                Refused.BUSY.argument("fader", strip, level);
            }
        }
    }
}
