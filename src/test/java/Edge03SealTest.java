/** The boundary cases that promise 3 names. */
public final class Edge03SealTest {
    public static void main(String[] args) {
        shortestAndLongest();
        takeNumber();
        length();
        sealed();
        theOneNamedFirst();
        Check.end();
    }

    /** "A take that is SEALED has a length 1 .. 64" */
    private static void shortestAndLongest() {
        for (int t : new int[] {0, 7}) {
            for (int length : new int[] {1, 2, 63, 64}) {
                StripMixer x = new StripMixer();
                x.samples(t, 0, Setup.four(1, 2, 3, 4));
                x.samples(t, 60, Setup.four(5, 6, 7, 8));
                Ask.done(x, "seal", t, length);
                Ask.due(x, length, "take", t, -1);
                Ask.due(x, 1, "take", t, 0);
                Ask.due(x, length < 63 ? length : length - 56, "take", t, length - 1);
                Ask.index(x, "take", t, length);
                Ask.due(x, 0, "take", t == 0 ? 1 : 6, -1);
            }
        }
    }

    /** "IndexOutOfBoundsException: t is not 0 .. 7" */
    private static void takeNumber() {
        for (Refused on : new Refused[] {Refused.NEW, Refused.BUSY}) {
            for (int t : Edges.outside(0, 7)) {
                on.index("seal", t, 1);
                on.index("seal", t, 64);
            }
        }
    }

    /** "IllegalArgumentException: length is not 1 .. 64" */
    private static void length() {
        for (Refused on : new Refused[] {Refused.NEW, Refused.BUSY}) {
            for (int length : Edges.outside(1, 64)) {
                on.argument("seal", 2, length);
                on.argument("seal", 6, length);
            }
            on.argument("seal", 2, -1);
        }
    }

    /** "IllegalStateException: it is sealed", "and never changes", with its own length or another one. */
    private static void sealed() {
        for (int length : new int[] {1, 19, 20, 21, 64}) {
            Refused.BUSY.state("seal", 0, length);
            Refused.BUSY.state("seal", 7, length);
        }
        Refused bounced = new Refused("bounced", () -> {
            StripMixer x = Busy.desk();
            x.bounce(7, 10, 8);
            return x;
        });
        bounced.state("seal", 2, 8);
        bounced.state("seal", 2, 9);
    }

    /** "Methods throw what their comments name, the one named first when several would do" */
    private static void theOneNamedFirst() {
        for (int length : Edges.outside(1, 64)) {
            Refused.BUSY.index("seal", -1, length);
            Refused.BUSY.index("seal", 8, length);
            Refused.BUSY.argument("seal", 0, length);
        }
    }
}
