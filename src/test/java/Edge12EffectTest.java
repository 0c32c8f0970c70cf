/** The boundary cases that promise 12 names; what each effect does at its edges is in EdgeEffectsTest. */
public final class Edge12EffectTest {
    private static final int MIN = Edges.MIN;
    private static final int MAX = Edges.MAX;

    public static void main(String[] args) {
        firstAndLastPlace();
        inPlaceOfWhatWasThere();
        notLookedAt();
        strip();
        slot();
        kind();
        gain();
        smooth();
        echo();
        limit();
        gate();
        clamp();
        Check.end();
    }

    /** "An effect comes into a slot": the first and the last strip and slot */
    private static void firstAndLastPlace() {
        for (int slot : new int[] {0, 1, 2}) {
            StripMixer x = Setup.tracks(1, 5, -6);
            Ask.done(x, "effect", 0, slot, 1, 512, 0);
            Setup.renders("in the first strip", x, 0, 0, 10, -12, 0);
            Ask.done(x, "effect", 7, slot, 1, 512, 0);
            Setup.renders("in the master", x, 7, 0, 20, -24, 0);
            Setup.shows("in the first strip", x, 0, 10, -12, 0);
        }
    }

    /** "An effect comes into a slot in place of what was there; kind 0: none does" */
    private static void inPlaceOfWhatWasThere() {
        StripMixer x = Setup.tracks(1, 5, -6);
        int[][] row = {{4, 100000, 16}, {3, 1, 255}, {5, 100000, 64}, {2, 0, 0}, {6, 0, 0}, {1, 0, 0}, {0, 0, 0}};
        for (int[] effect : row) {
            Ask.done(x, "effect", 0, 2, effect[0], effect[1], effect[2]);
            Ask.due(x, effect[0] == 4 ? 16 : 0, "meter", 0, 3);
        }
        Setup.renders("none is left", x, 0, 0, 5, -6, 0);
        Ask.done(x, "effect", 0, 2, 0, 0, 0);
        Setup.renders("none in place of none", x, 0, 0, 5, -6, 0);
    }

    /** "p and q are not looked at by a kind that has none" */
    private static void notLookedAt() {
        for (int any : new int[] {MIN, -1, 0, 65, 256, 1025, 100001, MAX}) {
            StripMixer x = Setup.tracks(1, 5, -6);
            Ask.done(x, "effect", 0, 0, 0, any, any);
            Setup.renders("none", x, 0, 0, 5, -6, 0);
            Ask.done(x, "effect", 0, 0, 1, 512, any);
            Setup.renders("GAIN", x, 0, 0, 10, -12, 0);
            Ask.done(x, "effect", 0, 0, 2, 128, any);
            Setup.renders("SMOOTH", x, 0, 0, 2, -2, -1, -1);
            Ask.done(x, "effect", 0, 0, 6, 4, any);
            Setup.renders("CLAMP", x, 0, 0, 4, -4, 0);
            Ask.due(x, 0, "meter", 0, 3);
        }
    }

    /** "IllegalArgumentException: strip is not 0 .. 7" */
    private static void strip() {
        for (int strip : Edges.outside(0, 7)) {
            Refused.NEW.argument("effect", strip, 0, 1, 512, 0);
            Refused.BUSY.argument("effect", strip, 0, 0, 0, 0);
            Refused.BUSY.argument("effect", strip, 2, 4, 1, 16);
        }
    }

    /** "slot not 0 .. 2" */
    private static void slot() {
        for (int slot : Edges.outside(0, 2)) {
            for (int strip : new int[] {0, 7}) {
                Refused.NEW.argument("effect", strip, slot, 1, 512, 0);
                Refused.BUSY.argument("effect", strip, slot, 0, 0, 0);
                Refused.BUSY.argument("effect", strip, slot, 4, 1, 16);
            }
        }
    }

    /** "kind not 0 .. 6" */
    private static void kind() {
        for (int kind : Edges.outside(0, 6)) {
            for (int slot : new int[] {0, 1}) {
                Refused.NEW.argument("effect", 0, slot, kind, 1, 1);
                Refused.BUSY.argument("effect", 0, slot, kind, 1, 1);
                Refused.BUSY.argument("effect", 7, slot, kind, 0, 0);
            }
        }
    }

    /** "GAIN, a level p" */
    private static void gain() {
        p(1, 0, 1024, 0);
    }

    /** "SMOOTH, p 0 .. 256" */
    private static void smooth() {
        p(2, 0, 256, 0);
    }

    /** "ECHO, p 1 .. 32, q 0 .. 255" */
    private static void echo() {
        p(3, 1, 32, 0, 255);
        q(3, 0, 255, 1, 32);
    }

    /** "LIMIT, p 1 .. 100000, q 0 .. 16" */
    private static void limit() {
        p(4, 1, 100000, 0, 16);
        q(4, 0, 16, 1, 100000);
    }

    /** "GATE, p 0 .. 100000, q 0 .. 64" */
    private static void gate() {
        p(5, 0, 100000, 0, 64);
        q(5, 0, 64, 0, 100000);
    }

    /** "CLAMP, p 0 .. 100000" */
    private static void clamp() {
        p(6, 0, 100000, 0);
    }

    /** "or p ... is out of its range", with each of these q. */
    private static void p(int kind, int least, int most, int... someQ) {
        for (int q : someQ) {
            Ask.done(Busy.desk(), "effect", 0, 0, kind, least, q);
            Ask.done(Busy.desk(), "effect", 7, 2, kind, most, q);
            for (int p : Edges.outside(least, most)) {
                Refused.BUSY.argument("effect", 0, 0, kind, p, q);
                Refused.BUSY.argument("effect", 0, 1, kind, p, q);
            }
        }
    }

    /** "or q is out of its range", with each of these p. */
    private static void q(int kind, int least, int most, int... someP) {
        for (int p : someP) {
            Ask.done(Busy.desk(), "effect", 0, 0, kind, p, least);
            Ask.done(Busy.desk(), "effect", 7, 2, kind, p, most);
            for (int q : Edges.outside(least, most)) {
                Refused.BUSY.argument("effect", 0, 0, kind, p, q);
                Refused.BUSY.argument("effect", 0, 1, kind, p, q);
            }
        }
    }
}
