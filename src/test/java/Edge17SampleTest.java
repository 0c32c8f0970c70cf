/** The boundary cases that promise 17 names. */
public final class Edge17SampleTest {
    public static void main(String[] args) {
        firstAndLast();
        stays();
        strip();
        noSuchSample();
        Check.end();
    }

    /** "Sample i of the last block, of a strip": the first and the last of each */
    private static void firstAndLast() {
        StripMixer x = Setup.tracks(15, 1, 2, 3);
        x.render(0, 1);
        Ask.due(x, 1, "sample", 0, 0);
        Ask.due(x, 4, "sample", 7, 0);
        Ask.index(x, "sample", 0, 1);
        x.render(2, 64);
        Ask.due(x, 3, "sample", 3, 0);
        Ask.due(x, 12, "sample", 7, 0);
        Ask.due(x, 0, "sample", 7, 63);
        Ask.index(x, "sample", 7, 64);
        x.bounce(7, 1, 2);
        Ask.due(x, 8, "sample", 7, 0);
        Ask.due(x, 12, "sample", 7, 1);
        Ask.index(x, "sample", 7, 2);
    }

    /** "They and the samples of the block stay until the next one is rendered." */
    private static void stays() {
        StripMixer still = Busy.desk();
        StripMixer x = Busy.desk();
        x.samples(2, 0, -1);
        x.seal(2, 8);
        x.clip(2, 10, 2, 0, 8);
        x.drop(0);
        x.move(1, 0, 10);
        x.split(2, 3);
        x.shape(6, 0, 0, 0);
        x.route(0, 7);
        x.send(1, 5, 0);
        x.effect(7, 0, 4, 1, 16);
        x.fader(7, 0);
        x.point(0, 0, 1, false);
        for (int strip = 0; strip < 8; strip++) {
            x.turn(strip, 0);
            x.turn(strip, 1);
            x.turn(strip, 4);
            x.meter(strip, 3);
            x.meter(strip, 4);
        }
        for (int strip = 0; strip < 8; strip++) {
            for (int i = 0; i <= 24; i++) {
                Check.same("sample(" + strip + ", " + i + ") stays", Ask.answer(x, "sample", strip, i),
                    Ask.answer(still, "sample", strip, i));
            }
            for (int what = 0; what < 3; what++) {
                Check.same("meter(" + strip + ", " + what + ") stays", x.meter(strip, what), still.meter(strip, what));
            }
        }
        x.render(10, 1);
        for (int strip = 0; strip < 8; strip++) {
            Ask.due(x, 0, "sample", strip, 0);
            Ask.index(x, "sample", strip, 1);
        }
    }

    /** "IndexOutOfBoundsException: strip is not 0 .. 7" */
    private static void strip() {
        for (int strip : Edges.outside(0, 7)) {
            Refused.NEW.index("sample", strip, 0);
            Refused.BUSY.index("sample", strip, 0);
            Refused.BUSY.index("sample", strip, 23);
            Refused.BUSY.index("sample", strip, 24);
        }
    }

    /** "or the block has no such sample" */
    private static void noSuchSample() {
        for (int strip : new int[] {0, 3, 7}) {
            for (int i : Edges.outside(0, 23)) {
                Refused.NEW.index("sample", strip, i);
                Refused.BUSY.index("sample", strip, i);
            }
            Refused.NEW.index("sample", strip, 0);
            Refused.BUSY.index("sample", strip, 63);
            Refused.BUSY.index("sample", strip, 64);
            Refused.BUSY.index("sample", strip, 1014);
        }
    }
}
