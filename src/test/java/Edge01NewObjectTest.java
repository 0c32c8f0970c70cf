/** The boundary cases that promise 1 names: all is as said at first, and two objects have nothing in common. */
public final class Edge01NewObjectTest {
    public static void main(String[] args) {
        noBlock();
        noClips();
        noEffects();
        allOfATakeIs0();
        sendsAre0AndRoutesToTheMaster();
        objectsAreApart();
        the512thCall();
        Check.end();
    }

    /** "the last block has no samples" */
    private static void noBlock() {
        for (int strip = 0; strip < 8; strip++) {
            for (int i : new int[] {0, -1, 1, 63, Edges.MIN, Edges.MAX}) {
                Refused.NEW.index("sample", strip, i);
            }
            StripMixer x = new StripMixer();
            Ask.due(x, 0, "meter", strip, 0);
            Ask.due(x, 0, "meter", strip, 1);
            Ask.due(x, 0, "meter", strip, 2);
        }
    }

    /** "no clips" */
    private static void noClips() {
        for (int c = 0; c < 16; c++) {
            Refused.NEW.element("drop", c);
        }
        StripMixer x = new StripMixer();
        x.seal(0, 1);
        Ask.due(x, 0, "clip", 0, 0, 0, 0, 1);
    }

    /** "no effects" */
    private static void noEffects() {
        StripMixer x = Setup.tracks(1, 32767, -32768, 1, -1, 0);
        x.route(0, 4);
        x.route(4, 5);
        x.route(5, 6);
        for (int strip : new int[] {0, 4, 5, 6, 7}) {
            Setup.renders("as it came in", x, strip, 0, 32767, -32768, 1, -1, 0, 0);
            Ask.due(x, 0, "meter", strip, 3);
        }
    }

    /** "TAKES 0 .. 7 are OPEN at first, with 64 samples, each 0." */
    private static void allOfATakeIs0() {
        for (int t = 0; t < 8; t++) {
            StripMixer x = new StripMixer();
            Ask.due(x, 0, "take", t, -1);
            for (int i = 0; i < 64; i++) {
                Ask.due(x, 0, "take", t, i);
            }
            Ask.index(x, "take", t, 64);
        }
    }

    /** "at first to the master", "each with a level, at first 0" */
    private static void sendsAre0AndRoutesToTheMaster() {
        for (int strip = 0; strip < 7; strip++) {
            StripMixer x = new StripMixer();
            x.effect(strip, 0, 4, 1, 16);
            for (int other = 0; other < 8; other++) {
                Ask.due(x, other == strip || other == 7 ? 16 : 0, "meter", other, 3);
            }
        }
    }

    /** "A new object": what another one was told, it does not know. */
    private static void objectsAreApart() {
        StripMixer x = new StripMixer();
        StripMixer y = Busy.desk();
        Ask.due(x, 0, "take", 0, 0);
        Ask.due(x, 0, "take", 0, -1);
        Ask.due(x, 0, "meter", 7, 3);
        Ask.index(x, "sample", 7, 0);
        x.render(0, 1);
        Ask.due(x, 0, "sample", 7, 0);
        Ask.index(y, "sample", 7, 24);
        Ask.due(y, Busy.desk().sample(7, 23), "sample", 7, 23);
    }

    /** "An object is used for at most 512 calls": the last of them answers as the first. */
    private static void the512thCall() {
        StripMixer x = new StripMixer();
        x.samples(0, 0, Setup.four(11, -12, 13, -14));
        x.seal(0, 4);
        x.clip(0, 1020, 0, 0, 4);
        for (int call = 4; call < 510; call++) {
            if (call % 2 == 0) {
                Ask.done(x, "effect", 0, 0, 3, 1 + call % 32, 255);
            } else {
                Ask.done(x, "render", 960, 64);
            }
        }
        Ask.done(x, "effect", 0, 0, 0, 0, 0);
        Ask.done(x, "render", 1020, 4);
        Ask.due(x, -14, "sample", 7, 3);
    }
}
