/** The boundary cases that promise 2 names. */
public final class Edge02SamplesTest {
    public static void main(String[] args) {
        sixteenLowestBits();
        fourSamplesAndNoMore();
        takeNumber();
        place();
        sealed();
        indexIsNamedFirst();
        Check.end();
    }

    /** "the sixteen lowest bits of four with the first as the lowest, as numbers -32768 .. 32767" */
    private static void sixteenLowestBits() {
        becomes(0L, 0, 0, 0, 0);
        becomes(0x7fffL, 32767, 0, 0, 0);
        becomes(0x8000L, -32768, 0, 0, 0);
        becomes(0x8001L, -32767, 0, 0, 0);
        becomes(0xffffL, -1, 0, 0, 0);
        becomes(0x10000L, 0, 1, 0, 0);
        becomes(0x7fff0000L, 0, 32767, 0, 0);
        becomes(0x80000000L, 0, -32768, 0, 0);
        becomes(0xffff0000L, 0, -1, 0, 0);
        becomes(0x100000000L, 0, 0, 1, 0);
        becomes(0x800000000000L, 0, 0, -32768, 0);
        becomes(0x7fff00000000L, 0, 0, 32767, 0);
        becomes(0x1000000000000L, 0, 0, 0, 1);
        becomes(Long.MIN_VALUE, 0, 0, 0, -32768);
        becomes(Long.MAX_VALUE, -1, -1, -1, 32767);
        becomes(-1L, -1, -1, -1, -1);
        becomes(0x8000000080007fffL, 32767, -32768, 0, -32768);
    }

    private static void becomes(long four, int... due) {
        StripMixer x = new StripMixer();
        Ask.done(x, "samples", 3, 8, four);
        for (int j = 0; j < 4; j++) {
            Ask.due(x, due[j], "take", 3, 8 + j);
        }
    }

    /** "become samples i .. i + 3 of a take", from the first place to the last, and nothing round them. */
    private static void fourSamplesAndNoMore() {
        for (int t : new int[] {0, 7}) {
            for (int i : new int[] {0, 1, 3, 59, 60}) {
                StripMixer x = new StripMixer();
                Ask.done(x, "samples", t, i, Setup.four(5, 6, 7, 8));
                for (int j = 0; j < 64; j++) {
                    Ask.due(x, j < i || j > i + 3 ? 0 : 5 + j - i, "take", t, j);
                }
                for (int other = 0; other < 8; other++) {
                    if (other != t) {
                        Ask.due(x, 0, "take", other, i);
                        Ask.due(x, 0, "take", other, i + 3);
                    }
                }
            }
        }
    }

    /** "IndexOutOfBoundsException: t is not 0 .. 7" */
    private static void takeNumber() {
        for (Refused on : new Refused[] {Refused.NEW, Refused.BUSY}) {
            for (int t : Edges.outside(0, 7)) {
                on.index("samples", t, 0, 9);
                on.index("samples", t, 60, -1);
            }
        }
    }

    /** "or i not 0 .. 60" */
    private static void place() {
        for (Refused on : new Refused[] {Refused.NEW, Refused.BUSY}) {
            for (int i : Edges.outside(0, 60)) {
                on.index("samples", 2, i, 9);
                on.index("samples", 6, i, Long.MIN_VALUE);
            }
            for (int i : new int[] {-4, -3, 62, 63, 64}) {
                on.index("samples", 2, i, 9);
            }
        }
    }

    /** "IllegalStateException: it is sealed", by seal() or by bounce(), and whatever its length is. */
    private static void sealed() {
        for (int i : new int[] {0, 17, 20, 60}) {
            Refused.BUSY.state("samples", 0, i, 9);
            Refused.BUSY.state("samples", 7, i, 9);
        }
        Refused bounced = new Refused("bounced", () -> {
            StripMixer x = Busy.desk();
            x.bounce(7, 10, 8);
            return x;
        });
        bounced.state("samples", 2, 0, 9);
        bounced.state("samples", 2, 60, 9);
    }

    /** "Methods throw what their comments name, the one named first when several would do" */
    private static void indexIsNamedFirst() {
        Refused.BUSY.index("samples", 0, -1, 9);
        Refused.BUSY.index("samples", 0, 61, 9);
        Refused.BUSY.index("samples", 7, Edges.MAX, 9);
        Refused.BUSY.index("samples", -1, -1, 9);
    }
}
