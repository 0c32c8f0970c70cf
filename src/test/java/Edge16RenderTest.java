/** The boundary cases that promise 16 names. */
public final class Edge16RenderTest {
    private static final int MIN = Edges.MIN;
    private static final int MAX = Edges.MAX;

    public static void main(String[] args) {
        shortestAndLongest();
        allOfTime();
        beforeTime0();
        from();
        count();
        endBehindTime();
        Check.end();
    }

    /** "A block of n samples from a time on is rendered": the shortest and the longest, at both ends of time */
    private static void shortestAndLongest() {
        int[][] blocks = {{0, 1}, {0, 64}, {1023, 1}, {960, 64}, {1022, 2}, {961, 63}, {1, 64}, {500, 1}};
        for (int[] block : blocks) {
            StripMixer x = Busy.desk();
            Ask.done(x, "render", block[0], block[1]);
            StripMixer y = Busy.desk();
            y.render(block[0] + block[1] - 1, 1);
            for (int strip = 0; strip < 8; strip++) {
                Ask.due(x, y.sample(strip, 0), "sample", strip, block[1] - 1);
                Ask.index(x, "sample", strip, block[1]);
            }
        }
    }

    /** "TIME is counted in samples, 0 .. 1023": a clip in each 64 of them, and blocks from the first to the last */
    private static void allOfTime() {
        StripMixer x = new StripMixer();
        int[] row = new int[64];
        for (int i = 0; i < 64; i++) {
            row[i] = i + 1;
        }
        Setup.seal(x, 0, row);
        for (int c = 0; c < 16; c++) {
            x.clip(c % 4, 64 * c, 0, 0, 64);
        }
        for (int from = 0; from < 1024; from += 64) {
            x.render(from, 64);
            for (int i : new int[] {0, 1, 62, 63}) {
                Ask.due(x, i + 1, "sample", 7, i);
                Ask.due(x, i + 1, "sample", from / 64 % 4, i);
                Ask.due(x, 0, "sample", (from / 64 + 1) % 4, i);
            }
        }
        for (int time : new int[] {0, 63, 64, 127, 128, 959, 960, 1023}) {
            Setup.renders("time " + time, x, 7, time, time % 64 + 1);
        }
    }

    /** "Before time 0 all memories are 0": whatever was rendered before. */
    private static void beforeTime0() {
        int[][] effects = {{2, 128, 0}, {3, 1, 255}, {3, 32, 255}, {4, 10, 16}, {5, 100, 64}};
        for (int[] effect : effects) {
            for (int slot = 0; slot < 3; slot++) {
                beforeTime0(0, slot, effect);
                beforeTime0(7, slot, effect);
            }
        }
    }

    private static void beforeTime0(int strip, int slot, int[] effect) {
        StripMixer x = Setup.tracks(1, 200, 50, 50, -1);
        x.effect(strip, slot, effect[0], effect[1], effect[2]);
        x.render(0, 40);
        int[] first = new int[40];
        for (int i = 0; i < 40; i++) {
            first[i] = x.sample(strip, i);
        }
        x.render(960, 64);
        Setup.renders("again from 0", x, strip, 0, first);
        x.render(0, 2);
        Setup.renders("and from 0", x, strip, 0, first);
        Setup.renders("a block within", x, strip, 1, first[1]);
        Setup.renders("a block within", x, strip, 39, first[39]);
    }

    /** "IllegalArgumentException: from is below 0" */
    private static void from() {
        for (int from : new int[] {-1, -64, MIN, MIN + 1}) {
            Refused.NEW.argument("render", from, 1);
            Refused.BUSY.argument("render", from, 1);
            Refused.BUSY.argument("render", from, 64);
        }
    }

    /** "n not 1 .. 64" */
    private static void count() {
        for (int n : Edges.outside(1, 64)) {
            Refused.NEW.argument("render", 0, n);
            Refused.BUSY.argument("render", 0, n);
            Refused.BUSY.argument("render", 1023, n);
            Refused.BUSY.argument("render", 959, n);
        }
        Refused.BUSY.argument("render", 10, -1);
    }

    /** "or it would end behind time 1024", and no sum of from and n wraps around */
    private static void endBehindTime() {
        int[][] blocks = {{1024, 1}, {1023, 2}, {961, 64}, {1024, 64}, {MAX, 1}, {MAX, 64}, {MAX - 63, 64},
            {MAX, MAX}, {MAX, MIN}, {MIN, MAX}, {MIN, MIN}, {1, MAX}, {1024, 0}, {1025, -1}};
        for (int[] block : blocks) {
            Refused.NEW.argument("render", block[0], block[1]);
            Refused.BUSY.argument("render", block[0], block[1]);
        }
    }
}
