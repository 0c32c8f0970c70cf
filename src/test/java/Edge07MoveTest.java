/** The boundary cases that promise 7 names. */
public final class Edge07MoveTest {
    private static final int MIN = Edges.MIN;
    private static final int MAX = Edges.MAX;

    public static void main(String[] args) {
        firstAndLastPlace();
        overlap();
        itself();
        noneSuch();
        track();
        at();
        endBehindTime();
        theOneNamedFirst();
        Check.end();
    }

    /** "A clip comes to a track and a time: true": the first and the last of each */
    private static void firstAndLastPlace() {
        StripMixer x = Setup.tracks(2, 5, 6, 7);
        Ask.due(x, 1, "move", 0, 0, 0);
        Setup.renders("first track, first time", x, 0, 0, 5, 6, 7, 0);
        Setup.shows("left", x, 1, 0, 0, 0);
        Ask.due(x, 1, "move", 0, 3, 1021);
        Setup.renders("last track, last time", x, 3, 1020, 0, 5, 6, 7);
        StripMixer y = Setup.tracks(1, 5);
        Ask.due(y, 1, "move", 0, 0, 1023);
        Setup.renders("one sample at the last time", y, 0, 1022, 0, 5);
        StripMixer z = Setup.flat(4, 1);
        Ask.due(z, 1, "move", 0, 0, 960);
        Setup.renders("64 samples up to the end", z, 0, 959, 0, 4, 4);
        Setup.renders("64 samples up to the end", z, 0, 1023, 4);
    }

    /** "false when it would overlap another one there" */
    private static void overlap() {
        Refused.BUSY.no("move", 0, 0, 21);
        Refused.BUSY.no("move", 0, 0, 40);
        Refused.BUSY.no("move", 0, 0, 49);
        Refused.BUSY.no("move", 1, 0, 19);
        Refused.BUSY.no("move", 1, 0, 0);
        Refused.BUSY.no("move", 1, 0, 5);
        Refused.BUSY.no("move", 7, 0, 0);
        Refused.BUSY.no("move", 7, 0, 19);
        Refused.BUSY.no("move", 7, 3, 1023);
        Refused.BUSY.no("move", 0, 3, 1004);
        Refused.BUSY.no("move", 2, 1, 49);
        Refused.FULL_OF_CLIPS.no("move", 7, 0, 280);
        Refused.FULL_OF_CLIPS.no("move", 7, 0, 284);
        Refused.FULL_OF_CLIPS.no("move", 15, 3, 0);
        StripMixer full = Busy.fullOfClips();
        Ask.due(full, 1, "move", 7, 0, 279);
        Ask.due(full, 1, "move", 7, 0, 285);
        StripMixer x = Busy.desk();
        Ask.due(x, 1, "move", 0, 0, 20);
        Ask.due(x, 1, "move", 0, 0, 50);
        Ask.due(x, 1, "move", 2, 1, 48);
        Ask.due(x, 1, "move", 2, 1, 61);
        Ask.due(x, 1, "move", 7, 3, 1011);
        Ask.due(x, 1, "move", 7, 3, 20);
    }

    /** "another one": a clip may lie over its own old place. */
    private static void itself() {
        StripMixer x = Setup.tracks(1, 5, 6, 7);
        Ask.due(x, 1, "move", 0, 0, 0);
        Ask.due(x, 1, "move", 0, 0, 1);
        Setup.renders("one later", x, 0, 0, 0, 5, 6, 7, 0);
        Ask.due(x, 1, "move", 0, 0, 0);
        Setup.renders("one sooner", x, 0, 0, 5, 6, 7, 0);
    }

    /** "NoSuchElementException: there is none such" */
    private static void noneSuch() {
        for (int c : Edges.noClips()) {
            Refused.BUSY.element("move", c, 2, 600);
        }
        Refused.NEW.element("move", 0, 0, 0);
    }

    /** "IllegalArgumentException: track is not 0 .. 3" */
    private static void track() {
        for (int track : Edges.outside(0, 3)) {
            Refused.BUSY.argument("move", 0, track, 600);
        }
    }

    /** "or at below 0" */
    private static void at() {
        for (int at : new int[] {-1, -20, MIN, MIN + 1}) {
            Refused.BUSY.argument("move", 0, 2, at);
            Refused.BUSY.argument("move", 7, 2, at);
        }
    }

    /** "or it would end behind time 1024", and no sum of at and length wraps around */
    private static void endBehindTime() {
        for (int at : new int[] {1005, 1023, 1024, MAX, MAX - 19}) {
            Refused.BUSY.argument("move", 0, 2, at);
        }
        for (int at : new int[] {1024, MAX}) {
            Refused.BUSY.argument("move", 7, 2, at);
        }
        Ask.due(Busy.desk(), 1, "move", 0, 2, 1004);
        Ask.due(Busy.desk(), 1, "move", 7, 2, 1023);
    }

    /** "Methods throw what their comments name, the one named first when several would do", and before false */
    private static void theOneNamedFirst() {
        Refused.BUSY.element("move", 3, 4, 0);
        Refused.BUSY.element("move", 16, 0, -1);
        Refused.BUSY.element("move", -1, 0, 1024);
        Refused.BUSY.argument("move", 1, -1, 0);
        Refused.BUSY.argument("move", 6, 3, 1005);
    }
}
