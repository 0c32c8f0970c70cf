/** The boundary cases that promise 5 names. */
public final class Edge05ClipTest {
    private static final int MIN = Edges.MIN;
    private static final int MAX = Edges.MAX;

    public static void main(String[] args) {
        firstAndLastOfEach();
        overlap();
        sixteen();
        track();
        at();
        take();
        from();
        tooShort();
        endBehindTime();
        openTake();
        shortTake();
        theOneNamedFirst();
        Check.end();
    }

    /** "A new clip: its number": with the first and the last of each that is allowed */
    private static void firstAndLastOfEach() {
        StripMixer x = new StripMixer();
        Setup.seal(x, 0, 1, 2, 3);
        Setup.sealFlat(x, 7, 9);
        Ask.due(x, 0, "clip", 0, 0, 0, 0, 1);
        Ask.due(x, 1, "clip", 3, 1023, 7, 63, 1);
        Ask.due(x, 2, "clip", 3, 0, 7, 0, 64);
        Ask.due(x, 3, "clip", 0, 960, 7, 0, 64);
        Ask.due(x, 4, "clip", 1, 1021, 0, 0, 3);
        Ask.due(x, 5, "clip", 2, 1022, 0, 1, 2);
        Setup.renders("the first times", x, 0, 0, 1, 0);
        Setup.renders("the last times", x, 0, 1022, 9, 9);
        Setup.shows("the last times", x, 1, 2, 3);
        Setup.shows("the last times", x, 2, 2, 3);
        Setup.shows("the last times", x, 3, 0, 9);
        Setup.renders("64 long", x, 3, 62, 9, 9, 0);
    }

    /** "NONE when it would overlap another one on its track": by one sample, at either end, or wholly. */
    private static void overlap() {
        Refused.BUSY.none("clip", 0, 39, 0, 0, 2);
        Refused.BUSY.none("clip", 0, 49, 0, 0, 2);
        Refused.BUSY.none("clip", 0, 49, 0, 0, 1);
        Refused.BUSY.none("clip", 0, 40, 0, 0, 1);
        Refused.BUSY.none("clip", 0, 40, 0, 0, 10);
        Refused.BUSY.none("clip", 0, 39, 0, 0, 12);
        Refused.BUSY.none("clip", 0, 19, 0, 0, 1);
        Refused.BUSY.none("clip", 3, 1023, 0, 0, 1);
        Refused.BUSY.none("clip", 3, 1004, 0, 0, 20);
        Refused.BUSY.none("clip", 1, 60, 0, 0, 1);
        Refused.BUSY.none("clip", 1, 59, 0, 0, 3);
        Refused lastClip = new Refused("clip 15 and no clip 1", () -> {
            StripMixer x = Busy.fullOfClips();
            x.drop(1);
            return x;
        });
        lastClip.none("clip", 0, 279, 0, 0, 2);
        lastClip.none("clip", 0, 280, 0, 0, 1);
        lastClip.none("clip", 0, 284, 0, 0, 1);
        StripMixer x = Busy.desk();
        Ask.due(x, 3, "clip", 0, 38, 0, 0, 2);
        Ask.due(x, 8, "clip", 0, 50, 0, 0, 2);
        Ask.due(x, 9, "clip", 0, 20, 0, 2, 18);
        Ask.due(x, 10, "clip", 3, 1011, 0, 0, 1);
        Ask.due(x, 11, "clip", 1, 59, 0, 0, 1);
        Ask.due(x, 12, "clip", 1, 61, 0, 0, 1);
        Ask.due(x, 13, "clip", 2, 0, 0, 0, 20);
    }

    /** "or there are 16" */
    private static void sixteen() {
        StripMixer x = new StripMixer();
        Setup.seal(x, 0, 7);
        for (int c = 0; c < 16; c++) {
            Ask.due(x, c, "clip", 3, 1023 - c, 0, 0, 1);
        }
        Ask.due(x, -1, "clip", 3, 1007, 0, 0, 1);
        Ask.done(x, "drop", 15);
        Ask.due(x, 15, "clip", 3, 1007, 0, 0, 1);
        Ask.due(x, -1, "clip", 3, 1008, 0, 0, 1);
        Ask.done(x, "drop", 0);
        Ask.due(x, 0, "clip", 0, 0, 0, 0, 1);
        Refused.FULL_OF_CLIPS.none("clip", 0, 600, 0, 0, 1);
        Refused.FULL_OF_CLIPS.none("clip", 3, 600, 7, 0, 1);
        Refused.FULL_OF_CLIPS.none("clip", 0, 0, 0, 0, 1);
    }

    /** "IllegalArgumentException: track is not 0 .. 3" */
    private static void track() {
        for (int track : Edges.outside(0, 3)) {
            Refused.BUSY.argument("clip", track, 600, 0, 0, 1);
        }
        Refused.BUSY.argument("clip", 7, 600, 0, 0, 1);
    }

    /** "at not 0 .. 1023" */
    private static void at() {
        for (int at : Edges.outside(0, 1023)) {
            Refused.BUSY.argument("clip", 2, at, 0, 0, 1);
            Refused.BUSY.argument("clip", 2, at, 0, 0, 20);
        }
    }

    /** "t not 0 .. 7" */
    private static void take() {
        for (int t : Edges.outside(0, 7)) {
            Refused.BUSY.argument("clip", 2, 600, t, 0, 1);
        }
    }

    /** "from below 0" */
    private static void from() {
        Refused.BUSY.argument("clip", 2, 600, 0, -1, 1);
        Refused.BUSY.argument("clip", 2, 600, 0, -1, 20);
        Refused.BUSY.argument("clip", 2, 600, 0, MIN, 1);
        Refused.BUSY.argument("clip", 2, 600, 0, MIN, 20);
    }

    /** "length below 1" */
    private static void tooShort() {
        Refused.BUSY.argument("clip", 2, 600, 0, 0, 0);
        Refused.BUSY.argument("clip", 2, 600, 0, 0, -1);
        Refused.BUSY.argument("clip", 2, 600, 0, 5, -5);
        Refused.BUSY.argument("clip", 2, 600, 0, 0, MIN);
        Refused.BUSY.argument("clip", 2, 1023, 0, 19, MIN);
    }

    /** "or it would end behind time 1024", and no sum of at and length wraps around */
    private static void endBehindTime() {
        Refused.BUSY.argument("clip", 2, 1023, 0, 0, 2);
        Refused.BUSY.argument("clip", 2, 1005, 0, 0, 20);
        Refused.BUSY.argument("clip", 2, 0, 0, 0, 1025);
        Refused.BUSY.argument("clip", 2, 0, 0, 0, MAX);
        Refused.BUSY.argument("clip", 2, 1, 0, 0, MAX);
        Refused.BUSY.argument("clip", 2, 1023, 0, 0, MAX);
        Refused.BUSY.argument("clip", 2, MAX, 0, 0, MAX);
        StripMixer x = Busy.desk();
        Ask.due(x, 3, "clip", 2, 1004, 0, 0, 20);
    }

    /** "IllegalStateException: the take is open" */
    private static void openTake() {
        Refused.BUSY.state("clip", 2, 600, 2, 0, 1);
        Refused.BUSY.state("clip", 2, 0, 6, 63, 1);
        Refused.NEW.state("clip", 0, 0, 0, 0, 1);
        Refused.NEW.state("clip", 0, 0, 7, 0, 64);
    }

    /** "or too short for it", and no sum of from and length wraps around */
    private static void shortTake() {
        Refused.BUSY.state("clip", 2, 600, 0, 0, 21);
        Refused.BUSY.state("clip", 2, 600, 0, 1, 20);
        Refused.BUSY.state("clip", 2, 600, 0, 19, 2);
        Refused.BUSY.state("clip", 2, 600, 0, 20, 1);
        Refused.BUSY.state("clip", 2, 600, 7, 0, 2);
        Refused.BUSY.state("clip", 2, 600, 7, 1, 1);
        Refused.BUSY.state("clip", 2, 0, 0, 0, 1024);
        Refused.BUSY.state("clip", 2, 600, 0, MAX, 1);
        Refused.BUSY.state("clip", 2, 600, 0, MAX, 20);
        Refused.BUSY.state("clip", 2, 0, 0, MAX, 1024);
        Refused.BUSY.state("clip", 2, 0, 0, MAX - 1022, 1024);
        StripMixer x = Busy.desk();
        Ask.due(x, 3, "clip", 2, 600, 0, 0, 20);
        Ask.due(x, 8, "clip", 2, 620, 0, 1, 19);
        Ask.due(x, 9, "clip", 2, 640, 0, 19, 1);
        Ask.due(x, 10, "clip", 2, 660, 7, 0, 1);
    }

    /** "Methods throw what their comments name, the one named first when several would do", and before NONE */
    private static void theOneNamedFirst() {
        Refused.BUSY.argument("clip", 4, 0, 2, 0, 1);
        Refused.BUSY.argument("clip", 2, -1, 2, 0, 1);
        Refused.BUSY.argument("clip", 2, 600, 2, -1, 1);
        Refused.BUSY.argument("clip", 2, 600, 0, 20, 0);
        Refused.BUSY.argument("clip", 2, 1023, 2, 0, 2);
        Refused.BUSY.argument("clip", 0, 0, 0, -1, 1);
        Refused.BUSY.state("clip", 0, 0, 2, 0, 1);
        Refused.BUSY.state("clip", 0, 0, 0, 0, 21);
        Refused.FULL_OF_CLIPS.argument("clip", 4, 600, 0, 0, 1);
        Refused.FULL_OF_CLIPS.argument("clip", 0, 1024, 0, 0, 1);
        Refused.FULL_OF_CLIPS.argument("clip", 0, 600, 0, 0, 0);
        Refused.FULL_OF_CLIPS.state("clip", 0, 600, 2, 0, 1);
        Refused.FULL_OF_CLIPS.state("clip", 0, 600, 0, 20, 1);
    }
}
