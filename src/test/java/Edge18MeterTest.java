/** The boundary cases that promise 18 names. */
public final class Edge18MeterTest {
    public static void main(String[] args) {
        withoutABlock();
        inAndOutOfRange();
        greatestSize();
        onlyTheBlock();
        most();
        delayNow();
        heardNow();
        strip();
        what();
        Check.end();
    }

    private static void meters(String what, StripMixer x, int strip, long size, long squares, long out) {
        Check.same(what + ": meter(" + strip + ", 0)", x.meter(strip, 0), size);
        Check.same(what + ": meter(" + strip + ", 1)", x.meter(strip, 1), squares);
        Check.same(what + ": meter(" + strip + ", 2)", x.meter(strip, 2), out);
    }

    /** "all 0 without a block", also when there would be something to hear */
    private static void withoutABlock() {
        StripMixer x = Setup.tracks(15, 32767, -32768);
        x.fader(0, 1024);
        for (int strip = 0; strip < 8; strip++) {
            meters("without a block", x, strip, 0, 0, 0);
        }
    }

    /** "how many are less than -32768 or more than 32767" */
    private static void inAndOutOfRange() {
        long edge = 32768;
        out("32767", 0, 32767, 32767, 32767L * 32767, 32767);
        out("32768", 1, 32767, 32768, edge * edge, 32767, 1);
        out("-32768", 0, -32768, 32768, edge * edge, -32768);
        out("-32769", 1, -32768, 32769, 32769L * 32769, -32768, -1);
    }

    /** What goes out of bus 4 is the sum of the samples, one on each track. */
    private static void out(String what, int due, int first, long size, long squares, int... samples) {
        StripMixer x = new StripMixer();
        for (int track = 0; track < samples.length; track++) {
            Setup.seal(x, track, samples[track]);
            x.clip(track, 0, track, 0, 1);
            x.route(track, 4);
        }
        x.render(0, 1);
        meters(what, x, 4, size, squares, due);
        meters(what, x, 7, size, squares, due);
        meters(what, x, 0, Math.abs(first), (long) first * first, 0);
        x.render(0, 64);
        meters(what + ", and zeros", x, 4, size, squares, due);
    }

    /** "the greatest size": of the first, of the last, of one below 0 */
    private static void greatestSize() {
        int[][] rows = {{9, 1, 1}, {1, 1, 9}, {1, -9, 1}, {-9, 8, 8}, {8, 8, -9}, {9, -8, -8}};
        for (int[] row : rows) {
            StripMixer x = Setup.tracks(1, row);
            x.render(0, 3);
            Ask.due(x, 9, "meter", 0, 0);
        }
    }

    /** "METERS of a strip are of the last block rendered" */
    private static void onlyTheBlock() {
        StripMixer x = Setup.tracks(1, 1000, 1, -2, 3, -1000);
        x.render(0, 5);
        x.render(1, 3);
        meters("the block", x, 0, 3, 14, 0);
        x.render(5, 1);
        meters("a silent block", x, 0, 0, 0, 0);
        x.bounce(0, 3, 2);
        meters("a bounced block", x, 0, 1000, 1000009, 0);
        x.fader(0, 1024);
        x.shape(0, 1024, 0, 0);
        x.effect(0, 0, 1, 1024, 0);
        x.render(0, 5);
        meters("out of range at both ends", x, 0, 64000, 4096L * 2000014, 2);
        x.render(1, 3);
        meters("not out of range between", x, 0, 192, 4096 * 14, 0);
    }

    /** "the sum of the squares": of 64 samples as far out as can be it is 2 to the 54th */
    private static void most() {
        for (int sample : new int[] {32767, -32768}) {
            StripMixer x = Setup.flat(sample, 1);
            x.shape(0, 1024, 0, 0);
            for (int slot = 0; slot < 3; slot++) {
                x.effect(0, slot, 1, 1024, 0);
            }
            x.fader(0, 1024);
            x.render(0, 64);
            meters("the most", x, 0, 16777216, 1L << 54, 64);
            meters("the most", x, 7, 16777216, 1L << 54, 64);
        }
    }

    /** "its delay now": 0, and the greatest there can be; without a render() */
    private static void delayNow() {
        StripMixer x = new StripMixer();
        x.route(0, 4);
        x.route(4, 5);
        x.route(5, 6);
        int[] way = {0, 4, 5, 6, 7};
        for (int strip = 0; strip < 8; strip++) {
            Ask.due(x, 0, "meter", strip, 3);
        }
        for (int strip : way) {
            for (int slot = 0; slot < 3; slot++) {
                x.effect(strip, slot, 4, 1, 16);
            }
        }
        for (int i = 0; i < way.length; i++) {
            Ask.due(x, 48 * (i + 1), "meter", way[i], 3);
        }
        for (int track = 1; track < 4; track++) {
            Ask.due(x, 0, "meter", track, 3);
        }
        x.effect(0, 0, 0, 0, 0);
        Ask.due(x, 224, "meter", 7, 3);
        x.effect(0, 1, 4, 1, 0);
        Ask.due(x, 208, "meter", 7, 3);
        x.render(0, 1);
        x.route(0, 7);
        Ask.due(x, 192, "meter", 7, 3);
        Ask.due(x, 48, "meter", 4, 3);
    }

    /** "whether it is heard now, 1 or 0", not when the block was rendered */
    private static void heardNow() {
        for (int strip : new int[] {0, 7}) {
            StripMixer x = Setup.tracks(1, 5);
            x.render(0, 1);
            Ask.due(x, 1, "meter", strip, 4);
            x.turn(strip, 1);
            Ask.due(x, 0, "meter", strip, 4);
            Ask.due(x, 5, "sample", strip, 0);
            x.render(0, 1);
            x.turn(strip, 2);
            Ask.due(x, 1, "meter", strip, 4);
            Ask.due(x, 0, "sample", strip, 0);
        }
    }

    /** "IllegalArgumentException: strip is not 0 .. 7" */
    private static void strip() {
        for (int strip : Edges.outside(0, 7)) {
            for (int what = 0; what <= 4; what++) {
                Refused.NEW.argument("meter", strip, what);
                Refused.BUSY.argument("meter", strip, what);
            }
        }
    }

    /** "or what not 0 .. 4" */
    private static void what() {
        for (int what : Edges.outside(0, 4)) {
            for (int strip : new int[] {0, 3, 7}) {
                Refused.NEW.argument("meter", strip, what);
                Refused.BUSY.argument("meter", strip, what);
            }
        }
    }
}
