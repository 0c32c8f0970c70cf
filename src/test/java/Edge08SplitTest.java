/** The boundary cases that promise 8 names. */
public final class Edge08SplitTest {
    public static void main(String[] args) {
        firstAndLastPlace();
        bothItsLevel();
        sixteen();
        in();
        out();
        noneSuch();
        place();
        theOneNamedFirst();
        Check.end();
    }

    /** "k is not 1 .. length - 1": both are split off as they should be. */
    private static void firstAndLastPlace() {
        StripMixer x = Setup.tracks(1, 5, 6, 7);
        Ask.due(x, 1, "split", 0, 1);
        x.move(1, 1, 10);
        Setup.renders("one is left", x, 0, 0, 5, 0, 0);
        Setup.renders("two are split off", x, 1, 9, 0, 6, 7, 0);
        StripMixer y = Setup.tracks(1, 5, 6, 7);
        Ask.due(y, 1, "split", 0, 2);
        y.move(1, 1, 10);
        Setup.renders("two are left", y, 0, 0, 5, 6, 0);
        Setup.renders("one is split off", y, 1, 9, 0, 7, 0);
        StripMixer z = Setup.flat(4, 1);
        Ask.due(z, 1, "split", 0, 63);
        Ask.due(z, 2, "split", 0, 62);
        z.drop(1);
        Setup.renders("the 63rd is the last", z, 0, 61, 4, 4, 0, 0);
    }

    /** "both its level": the least and the greatest */
    private static void bothItsLevel() {
        StripMixer x = Setup.tracks(1, 5, -6, 7);
        x.shape(0, 1024, 0, 0);
        Ask.due(x, 1, "split", 0, 1);
        Setup.renders("level 1024", x, 0, 0, 20, -24, 28, 0);
        x.shape(1, 0, 0, 0);
        Ask.due(x, 2, "split", 1, 1);
        Setup.renders("level 0", x, 0, 0, 20, 0, 0, 0);
    }

    /** "NONE when there are 16" */
    private static void sixteen() {
        StripMixer x = Setup.flat(3, 1);
        for (int c = 1; c < 16; c++) {
            Ask.due(x, c, "split", 0, 64 - c);
        }
        Ask.due(x, -1, "split", 0, 1);
        Ask.due(x, -1, "split", 0, 48);
        x.drop(7);
        Ask.due(x, 7, "split", 0, 1);
        Ask.due(x, -1, "split", 7, 1);
        Refused.FULL_OF_CLIPS.none("split", 0, 10);
        Refused.FULL_OF_CLIPS.none("split", 15, 1);
        Refused.FULL_OF_CLIPS.none("split", 15, 4);
    }

    /** "or k is less than IN"; the clip keeps IN, as long as it is then. */
    private static void in() {
        Refused.BUSY.none("split", 0, 1);
        Refused.BUSY.none("split", 0, 2);
        Refused.BUSY.none("split", 1, 1);
        StripMixer x = Busy.desk();
        Ask.due(x, 3, "split", 0, 3);
        Ask.due(x, 8, "split", 1, 2);
        StripMixer y = Setup.tracks(1, 600, 600, 600);
        y.shape(0, 256, 2, 0);
        Ask.due(y, 1, "split", 0, 2);
        Ask.due(y, -1, "split", 0, 1);
        Setup.renders("all of the first is IN", y, 0, 0, 200, 400, 600, 0);
        StripMixer z = Setup.tracks(1, 600, 600, 600);
        z.shape(0, 256, 3, 0);
        Ask.due(z, -1, "split", 0, 1);
        Ask.due(z, -1, "split", 0, 2);
        Setup.renders("all is IN", z, 0, 0, 150, 300, 450, 0);
    }

    /** "or the new one would be shorter than OUT"; the new one gets OUT. */
    private static void out() {
        Refused.BUSY.none("split", 0, 17);
        Refused.BUSY.none("split", 0, 19);
        Refused.BUSY.none("split", 1, 8);
        Refused.BUSY.none("split", 2, 7);
        StripMixer x = Busy.desk();
        Ask.due(x, 3, "split", 0, 16);
        Ask.due(x, 8, "split", 1, 7);
        Ask.due(x, 9, "split", 2, 6);
        StripMixer y = Setup.tracks(1, 600, 600, 600);
        y.shape(0, 256, 0, 2);
        Ask.due(y, -1, "split", 0, 2);
        Ask.due(y, 1, "split", 0, 1);
        Ask.due(y, -1, "split", 1, 1);
        Setup.renders("all of the second is OUT", y, 0, 0, 600, 400, 200, 0);
        StripMixer z = Setup.tracks(1, 600, 600, 600);
        z.shape(0, 256, 0, 3);
        Ask.due(z, -1, "split", 0, 1);
        Ask.due(z, -1, "split", 0, 2);
        StripMixer both = Setup.tracks(1, 600, 600, 600);
        both.shape(0, 256, 1, 2);
        Ask.due(both, -1, "split", 0, 2);
        Ask.due(both, 1, "split", 0, 1);
        Setup.renders("IN, then OUT", both, 0, 0, 300, 400, 200, 0);
    }

    /** "NoSuchElementException: there is none such" */
    private static void noneSuch() {
        for (int c : Edges.noClips()) {
            Refused.BUSY.element("split", c, 1);
        }
        Refused.NEW.element("split", 0, 1);
    }

    /** "IllegalArgumentException: k is not 1 .. length - 1" */
    private static void place() {
        for (int k : Edges.outside(1, 19)) {
            Refused.BUSY.argument("split", 6, k);
            Refused.BUSY.argument("split", 0, k);
        }
        Refused.BUSY.argument("split", 6, -1);
        Refused.BUSY.argument("split", 6, 21);
        for (int k : new int[] {0, 1, 2, Edges.MIN, Edges.MAX}) {
            Refused.BUSY.argument("split", 7, k);
        }
        for (int k : Edges.outside(1, 4)) {
            Refused.FULL_OF_CLIPS.argument("split", 15, k);
        }
    }

    /** "Methods throw what their comments name, the one named first when several would do", and before NONE */
    private static void theOneNamedFirst() {
        Refused.BUSY.element("split", 3, 0);
        Refused.BUSY.element("split", 16, Edges.MAX);
        Refused.BUSY.argument("split", 0, 0);
        Refused.BUSY.argument("split", 2, 12);
    }
}
