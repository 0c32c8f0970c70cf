/** The boundary cases that promise 6 names. */
public final class Edge06DropTest {
    public static void main(String[] args) {
        firstAndLast();
        itsNumberIsFree();
        itsTimeIsFree();
        noneSuch();
        Check.end();
    }

    /** "A clip goes away": the first and the last number */
    private static void firstAndLast() {
        StripMixer x = Busy.fullOfClips();
        for (int c : new int[] {0, 15}) {
            Ask.done(x, "drop", c);
            Check.same("drop(" + c + ") again", Ask.answer(x, "drop", c), "java.util.NoSuchElementException");
        }
    }

    /** "a new one gets the least that no clip has" */
    private static void itsNumberIsFree() {
        StripMixer x = Busy.fullOfClips();
        for (int c : new int[] {15, 9, 0, 4}) {
            x.drop(c);
        }
        for (int c : new int[] {0, 4, 9, 15, -1}) {
            Ask.due(x, c, "clip", 2, 600 + Math.abs(c), 0, 0, 1);
        }
    }

    /** "A clip goes away", with all that it had. */
    private static void itsTimeIsFree() {
        StripMixer x = Setup.tracks(1, 5, 6, 7);
        x.shape(0, 1024, 1, 2);
        Ask.done(x, "drop", 0);
        Setup.renders("gone", x, 0, 0, 0, 0, 0, 0);
        Ask.due(x, 0, "clip", 0, 0, 0, 0, 3);
        Setup.renders("a new one has the level 256 and no fades", x, 0, 0, 5, 6, 7, 0);
        Ask.due(x, 1, "clip", 1, 21, 0, 0, 1);
        Ask.done(x, "drop", 1);
        Ask.due(x, 1, "move", 0, 1, 20);
        Ask.done(x, "drop", 0);
        Ask.due(x, 0, "clip", 1, 19, 0, 0, 3);
        Setup.renders("all round dropped ones", x, 1, 18, 0, 5, 6, 7, 0);
    }

    /** "NoSuchElementException: there is none such" */
    private static void noneSuch() {
        for (int c : Edges.noClips()) {
            Refused.BUSY.element("drop", c);
        }
        for (int c : new int[] {0, 15, -1, 16, Edges.MIN, Edges.MAX}) {
            Refused.NEW.element("drop", c);
        }
        for (int c : Edges.outside(0, 15)) {
            Refused.FULL_OF_CLIPS.element("drop", c);
        }
    }
}
