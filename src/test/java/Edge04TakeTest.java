/** The boundary cases that promise 4 names. */
public final class Edge04TakeTest {
    public static void main(String[] args) {
        open();
        sealed();
        takeNumber();
        noSuchSample();
        Check.end();
    }

    /** "its length for i = -1 (0 while it is open)", and samples 0 .. 63 "(64 while it is open)" */
    private static void open() {
        for (int t : new int[] {0, 7}) {
            StripMixer x = new StripMixer();
            x.samples(t, 0, Setup.four(-32768, 1, 2, 3));
            x.samples(t, 60, Setup.four(1, 2, 3, 32767));
            Ask.due(x, 0, "take", t, -1);
            Ask.due(x, -32768, "take", t, 0);
            Ask.due(x, 32767, "take", t, 63);
            Ask.index(x, "take", t, 64);
            Ask.index(x, "take", t, -2);
        }
    }

    /** "its length for i = -1", and samples 0 .. length - 1 */
    private static void sealed() {
        for (int length : new int[] {1, 5, 64}) {
            StripMixer x = new StripMixer();
            int[] row = new int[length];
            row[0] = 7;
            row[length - 1] = 8;
            Setup.seal(x, 4, row);
            Ask.due(x, length, "take", 4, -1);
            Ask.due(x, length == 1 ? 8 : 7, "take", 4, 0);
            Ask.due(x, 8, "take", 4, length - 1);
            Ask.index(x, "take", 4, length);
            Ask.index(x, "take", 4, -2);
        }
    }

    /** "IndexOutOfBoundsException: t is not 0 .. 7" */
    private static void takeNumber() {
        for (Refused on : new Refused[] {Refused.NEW, Refused.BUSY}) {
            for (int t : Edges.outside(0, 7)) {
                on.index("take", t, -1);
                on.index("take", t, 0);
            }
        }
    }

    /** "or there is no such sample" */
    private static void noSuchSample() {
        for (int i : Edges.outside(-1, 63)) {
            Refused.BUSY.index("take", 2, i);
        }
        for (int i : Edges.outside(-1, 19)) {
            Refused.BUSY.index("take", 0, i);
        }
        for (int i : Edges.outside(-1, 0)) {
            Refused.BUSY.index("take", 7, i);
        }
        Refused.BUSY.index("take", 0, 63);
    }
}
