/** The boundary cases that promise 19 names. */
public final class Edge19BounceTest {
    private static final int MIN = Edges.MIN;
    private static final int MAX = Edges.MAX;

    public static void main(String[] args) {
        shortestAndLongest();
        leastAndMost();
        leastThatIsOpen();
        sealed();
        noneOpen();
        strip();
        from();
        count();
        endBehindTime();
        throwsBeforeNone();
        Check.end();
    }

    /** "A block is rendered, and what goes out of a strip in it ... becomes a take": the shortest and the longest */
    private static void shortestAndLongest() {
        int[][] blocks = {{0, 1}, {0, 64}, {1023, 1}, {960, 64}, {1022, 2}};
        for (int[] block : blocks) {
            for (int strip : new int[] {0, 7}) {
                StripMixer x = Busy.desk();
                Ask.due(x, 2, "bounce", strip, block[0], block[1]);
                Ask.due(x, block[1], "take", 2, -1);
                Ask.index(x, "take", 2, block[1]);
                Ask.index(x, "sample", strip, block[1]);
                for (int i = 0; i < block[1]; i++) {
                    Ask.due(x, Math.max(-32768, Math.min(32767, x.sample(strip, i))), "take", 2, i);
                }
            }
        }
    }

    /** "-32768 if less, 32767 if more": in the take, but not in the block */
    private static void leastAndMost() {
        int[][] rows = {{32766, 0, 32766}, {32767, 0, 32767}, {32767, 1, 32767}, {32767, 2, 32767}, {-32767, 0, -32767},
            {-32768, 0, -32768}, {-32768, -1, -32768}, {-32768, -2, -32768}, {32767, 32767, 32767},
            {-32768, -32768, -32768}};
        for (int[] row : rows) {
            StripMixer x = new StripMixer();
            for (int track = 0; track < 2; track++) {
                Setup.seal(x, track, row[track]);
                x.clip(track, 0, track, 0, 1);
            }
            Ask.due(x, 2, "bounce", 7, 0, 1);
            Ask.due(x, row[2], "take", 2, 0);
            Ask.due(x, row[0] + row[1], "sample", 7, 0);
        }
        for (int sample : new int[] {32767, -32768}) {
            StripMixer x = Setup.flat(sample, 1);
            x.shape(0, 1024, 0, 0);
            x.effect(0, 0, 1, 1024, 0);
            x.effect(0, 1, 1, 1024, 0);
            x.effect(0, 2, 1, 1024, 0);
            x.fader(0, 1024);
            Ask.due(x, 1, "bounce", 0, 0, 64);
            Ask.due(x, sample, "take", 1, 0);
            Ask.due(x, sample, "take", 1, 63);
        }
    }

    /** "the least that is open": the first, one between, the last */
    private static void leastThatIsOpen() {
        StripMixer x = new StripMixer();
        x.seal(1, 1);
        x.seal(4, 64);
        for (int t : new int[] {0, 2, 3, 5, 6, 7}) {
            Ask.due(x, t, "bounce", 7, 0, 3);
            Ask.due(x, 3, "take", t, -1);
        }
        Ask.due(x, -1, "bounce", 7, 0, 3);
        Ask.due(x, 1, "take", 1, -1);
        Ask.due(x, 64, "take", 4, -1);
    }

    /** "becomes a take, sealed": all of what was in the open take is gone, and it never changes. */
    private static void sealed() {
        StripMixer x = Busy.desk();
        Ask.due(x, 2, "bounce", 0, 500, 6);
        for (int i = 0; i < 6; i++) {
            Ask.due(x, 0, "take", 2, i);
        }
        Ask.index(x, "take", 2, 6);
        Ask.due(x, 3, "clip", 2, 700, 2, 0, 6);
        Check.same("too short", Ask.answer(x, "clip", 2, 710, 2, 0, 7), "java.lang.IllegalStateException");
        Check.same("sealed", Ask.answer(x, "samples", 2, 0, 1), "java.lang.IllegalStateException");
        Check.same("sealed", Ask.answer(x, "seal", 2, 6), "java.lang.IllegalStateException");
    }

    /** "NONE, and nothing is rendered, when none is open" */
    private static void noneOpen() {
        Refused.FULL_OF_TAKES.none("bounce", 7, 0, 1);
        Refused.FULL_OF_TAKES.none("bounce", 0, 0, 64);
        Refused.FULL_OF_TAKES.none("bounce", 0, 960, 64);
        Refused.FULL_OF_TAKES.none("bounce", 7, 10, 24);
        new Refused("no block, no take open", () -> {
            StripMixer x = new StripMixer();
            for (int t = 0; t < 8; t++) {
                x.seal(t, 64);
            }
            return x;
        }).none("bounce", 7, 0, 64);
    }

    /** "IllegalArgumentException: strip is not 0 .. 7" */
    private static void strip() {
        for (int strip : Edges.outside(0, 7)) {
            Refused.NEW.argument("bounce", strip, 0, 1);
            Refused.BUSY.argument("bounce", strip, 0, 1);
            Refused.BUSY.argument("bounce", strip, 960, 64);
        }
    }

    /** "or as for render()": from is below 0 */
    private static void from() {
        for (int from : new int[] {-1, -64, MIN, MIN + 1}) {
            Refused.NEW.argument("bounce", 0, from, 1);
            Refused.BUSY.argument("bounce", 7, from, 64);
        }
    }

    /** "or as for render()": n is not 1 .. 64 */
    private static void count() {
        for (int n : Edges.outside(1, 64)) {
            Refused.NEW.argument("bounce", 0, 0, n);
            Refused.BUSY.argument("bounce", 7, 0, n);
            Refused.BUSY.argument("bounce", 7, 959, n);
        }
    }

    /** "or as for render()": it would end behind time 1024 */
    private static void endBehindTime() {
        int[][] blocks = {{1024, 1}, {1023, 2}, {961, 64}, {MAX, 1}, {MAX, 64}, {MAX - 63, 64}, {MAX, MAX}, {MIN, MAX},
            {1024, 0}};
        for (int[] block : blocks) {
            Refused.NEW.argument("bounce", 0, block[0], block[1]);
            Refused.BUSY.argument("bounce", 7, block[0], block[1]);
        }
    }

    /** "Methods throw what their comments name": also when there is no open take */
    private static void throwsBeforeNone() {
        for (int strip : Edges.outside(0, 7)) {
            Refused.FULL_OF_TAKES.argument("bounce", strip, 0, 1);
        }
        for (int n : Edges.outside(1, 64)) {
            Refused.FULL_OF_TAKES.argument("bounce", 0, 0, n);
        }
        Refused.FULL_OF_TAKES.argument("bounce", 0, -1, 1);
        Refused.FULL_OF_TAKES.argument("bounce", 0, 1023, 2);
    }
}
