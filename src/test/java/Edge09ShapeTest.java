/** The boundary cases that promise 9 names, and those of a clip's sample k. */
public final class Edge09ShapeTest {
    private static final int MIN = Edges.MIN;
    private static final int MAX = Edges.MAX;

    public static void main(String[] args) {
        lastBeforeAndFirstBehindAFade();
        longestFades();
        roundedDown();
        levels();
        noneSuch();
        noLevel();
        below0();
        moreThanItsLength();
        theOneNamedFirst();
        Check.end();
    }

    /** "if k is less than IN", "if length - 1 - k is less than OUT" */
    private static void lastBeforeAndFirstBehindAFade() {
        StripMixer x = Setup.tracks(1, 600, 600, 600, 600, 600);
        x.shape(0, 256, 1, 0);
        Setup.renders("IN 1", x, 0, 0, 300, 600, 600, 600, 600, 0);
        x.shape(0, 256, 0, 1);
        Setup.renders("OUT 1", x, 0, 0, 600, 600, 600, 600, 300, 0);
        x.shape(0, 256, 2, 2);
        Setup.renders("IN 2, OUT 2", x, 0, 0, 200, 400, 600, 400, 200, 0);
        x.shape(0, 256, 2, 3);
        Setup.renders("IN 2, OUT 3", x, 0, 0, 200, 400, 450, 300, 150, 0);
    }

    /** "in with out more than its length": as much as its length is fine. */
    private static void longestFades() {
        StripMixer one = Setup.tracks(1, 600);
        Ask.done(one, "shape", 0, 256, 1, 0);
        Setup.renders("IN of one sample", one, 0, 0, 300, 0);
        Ask.done(one, "shape", 0, 256, 0, 1);
        Setup.renders("OUT of one sample", one, 0, 0, 300, 0);
        StripMixer x = Setup.flat(-32768, 1);
        Ask.done(x, "shape", 0, 1024, 64, 0);
        x.render(0, 64);
        Ask.due(x, -2017, "sample", 0, 0);
        Ask.due(x, -129056, "sample", 0, 63);
        Ask.done(x, "shape", 0, 1024, 0, 64);
        x.render(0, 64);
        Ask.due(x, -129056, "sample", 0, 0);
        Ask.due(x, -2017, "sample", 0, 63);
        Ask.done(x, "shape", 0, 1024, 1, 63);
        x.render(0, 64);
        Ask.due(x, -65536, "sample", 0, 0);
        Ask.due(x, -129024, "sample", 0, 1);
        Ask.due(x, -2048, "sample", 0, 63);
    }

    /** "rounded down", also below 0, the level first and then the fades */
    private static void roundedDown() {
        StripMixer x = Setup.tracks(1, 7, -7, 1, -1);
        x.shape(0, 300, 0, 0);
        Setup.renders("level 300", x, 0, 0, 8, -9, 1, -2);
        x.shape(0, 300, 4, 0);
        Setup.renders("level 300, IN 4", x, 0, 0, 1, -4, 0, -2);
        x.shape(0, 300, 0, 4);
        Setup.renders("level 300, OUT 4", x, 0, 0, 6, -6, 0, -1);
    }

    /** "A LEVEL is 0 .. 1024, in 256ths" */
    private static void levels() {
        StripMixer x = Setup.tracks(1, 32767, -32768, 1, -1);
        Ask.done(x, "shape", 0, 0, 0, 0);
        Setup.renders("level 0", x, 0, 0, 0, 0, 0, 0);
        Ask.done(x, "shape", 0, 1, 0, 0);
        Setup.renders("level 1", x, 0, 0, 127, -128, 0, -1);
        Ask.done(x, "shape", 0, 255, 0, 0);
        Setup.renders("level 255", x, 0, 0, 32639, -32640, 0, -1);
        Ask.done(x, "shape", 0, 256, 0, 0);
        Setup.renders("level 256", x, 0, 0, 32767, -32768, 1, -1);
        Ask.done(x, "shape", 0, 257, 0, 0);
        Setup.renders("level 257", x, 0, 0, 32894, -32896, 1, -2);
        Ask.done(x, "shape", 0, 1024, 0, 0);
        Setup.renders("level 1024", x, 0, 0, 131068, -131072, 4, -4);
    }

    /** "NoSuchElementException: there is none such" */
    private static void noneSuch() {
        for (int c : Edges.noClips()) {
            Refused.BUSY.element("shape", c, 256, 0, 0);
        }
        Refused.NEW.element("shape", 0, 256, 0, 0);
    }

    /** "IllegalArgumentException: level is no level" */
    private static void noLevel() {
        for (int level : Edges.outside(0, 1024)) {
            Refused.BUSY.argument("shape", 0, level, 0, 0);
            Refused.BUSY.argument("shape", 7, level, 0, 1);
        }
    }

    /** "in or out is below 0", also when both together are not */
    private static void below0() {
        for (int bad : new int[] {-1, -20, MIN}) {
            Refused.BUSY.argument("shape", 0, 256, bad, 0);
            Refused.BUSY.argument("shape", 0, 256, 0, bad);
            Refused.BUSY.argument("shape", 0, 256, bad, bad);
        }
        Refused.BUSY.argument("shape", 0, 256, -1, 21);
        Refused.BUSY.argument("shape", 0, 256, 21, -1);
        Refused.BUSY.argument("shape", 0, 256, -1, 1);
        Refused.BUSY.argument("shape", 0, 256, MIN, MAX);
        Refused.BUSY.argument("shape", 0, 256, MAX, MIN);
    }

    /** "or in with out more than its length", and their sum does not wrap around */
    private static void moreThanItsLength() {
        int[][] pairs = {{21, 0}, {0, 21}, {20, 1}, {1, 20}, {10, 11}, {MAX, 0}, {0, MAX}, {MAX, 1}, {1, MAX},
            {MAX, MAX}, {MAX, 20}, {20, MAX}};
        for (int[] pair : pairs) {
            Refused.BUSY.argument("shape", 0, 256, pair[0], pair[1]);
        }
        Refused.BUSY.argument("shape", 7, 256, 1, 1);
        Refused.BUSY.argument("shape", 7, 256, 2, 0);
        Refused.BUSY.argument("shape", 7, 256, 0, 2);
        for (int in = 0; in <= 20; in++) {
            Ask.done(Busy.desk(), "shape", 0, 256, in, 20 - in);
        }
        StripMixer split = Setup.tracks(1, 600, 600, 600, 600);
        split.split(0, 3);
        Check.same("shape of what is left", Ask.answer(split, "shape", 0, 256, 2, 2),
            "java.lang.IllegalArgumentException");
        Ask.done(split, "shape", 0, 256, 1, 2);
        Ask.done(split, "shape", 1, 256, 1, 0);
    }

    /** "Methods throw what their comments name, the one named first when several would do" */
    private static void theOneNamedFirst() {
        Refused.BUSY.element("shape", 3, -1, 0, 0);
        Refused.BUSY.element("shape", 16, 256, -1, 0);
        Refused.BUSY.element("shape", -1, 256, 0, MAX);
    }
}
