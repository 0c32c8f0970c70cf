/** What each effect does at the edges of its p and q, and of what comes. */
public final class EdgeEffectsTest {
    private static final int GAIN = 1;
    private static final int SMOOTH = 2;
    private static final int ECHO = 3;
    private static final int LIMIT = 4;
    private static final int GATE = 5;
    private static final int CLAMP = 6;

    public static void main(String[] args) {
        gain();
        smoothLeastAndMost();
        smoothRoundsDown();
        echoLeastAndMost();
        echoComesPSamplesLater();
        limitAtAndAboveP();
        limitLooksAtTheLastQAndThisOne();
        limitForgetsWhatIsOlder();
        limitRoundsTo0();
        limitIsDelayedByQ();
        gateAtAndBelowP();
        gateHoldsQMore();
        gateBeginsAnew();
        gateOfP0();
        clampAtP();
        Check.end();
    }

    private static StripMixer with(int kind, int p, int q, int... samples) {
        StripMixer x = Setup.tracks(1, samples);
        x.effect(0, 0, kind, p, q);
        return x;
    }

    private static void gives(String what, StripMixer x, int... due) {
        Setup.renders(what, x, 0, 0, due);
    }

    /** "y is x at p" */
    private static void gain() {
        gives("GAIN 0", with(GAIN, 0, 0, 257, -257, 1, -1), 0, 0, 0, 0, 0);
        gives("GAIN 1", with(GAIN, 1, 0, 257, -257, 255, -1), 1, -2, 0, -1, 0);
        gives("GAIN 255", with(GAIN, 255, 0, 257, -257, 1, -1), 255, -256, 0, -1, 0);
        gives("GAIN 256", with(GAIN, 256, 0, 257, -257, 1, -1), 257, -257, 1, -1, 0);
        gives("GAIN 1024", with(GAIN, 1024, 0, 32767, -32768, 1, -1), 131068, -131072, 4, -4, 0);
    }

    /** "SMOOTH, p 0 .. 256" */
    private static void smoothLeastAndMost() {
        gives("SMOOTH 0", with(SMOOTH, 0, 0, 32767, -32768, 1), 0, 0, 0, 0, 0);
        gives("SMOOTH 256", with(SMOOTH, 256, 0, 32767, -32768, 1), 32767, -32768, 1, 0, 0);
    }

    /** "a memory m grows by (x - m) at p" */
    private static void smoothRoundsDown() {
        gives("SMOOTH 1", with(SMOOTH, 1, 0, 255, 256, -1, 0, -1), 0, 1, 0, 0, -1, -1, -1);
        gives("SMOOTH 255", with(SMOOTH, 255, 0, 1, -1, 0, 2), 0, -1, -1, 1, 0, 0);
        gives("SMOOTH 128", with(SMOOTH, 128, 0, 3, 3, 3, -3), 1, 2, 2, -1, -1, -1);
    }

    /** "ECHO, p 1 .. 32, q 0 .. 255" */
    private static void echoLeastAndMost() {
        gives("ECHO 1, 0", with(ECHO, 1, 0, 256, -1, 7), 256, -1, 7, 0, 0);
        gives("ECHO 1, 1", with(ECHO, 1, 1, 256, -1, 255), 256, 0, 255, 0, 0);
        gives("ECHO 1, 1", with(ECHO, 1, 1, -1), -1, -1, -1);
        gives("ECHO 1, 255", with(ECHO, 1, 255, 256), 256, 255, 254, 253);
        gives("ECHO 1, 255", with(ECHO, 1, 255, -256), -256, -255, -255, -255);
        StripMixer x = with(ECHO, 32, 255, 256, -256);
        Setup.renders("ECHO 32, 255", x, 0, 31, 0, 255, -255, 0);
        Setup.renders("ECHO 32, 255, again", x, 0, 63, 0, 254, -255, 0);
    }

    /** "what y was p samples before": 0 before time 0, and of y, not of x */
    private static void echoComesPSamplesLater() {
        for (int p = 1; p <= 32; p++) {
            StripMixer x = with(ECHO, p, 128, 400);
            x.render(0, 64);
            for (int i = 0; i < 64; i++) {
                int due = i == 0 ? 400 : i == p ? 200 : i == 2 * p ? 100 : i == 3 * p ? 50 : 0;
                if (i < 4 * p) {
                    Ask.due(x, due, "sample", 0, i);
                }
            }
        }
    }

    /** "y is z if M is at most p, else z times p, divided by M" */
    private static void limitAtAndAboveP() {
        gives("LIMIT 100, 0", with(LIMIT, 100, 0, 99, 100, 101, -99, -100, -101, 200),
            99, 100, 100, -99, -100, -100, 100);
        gives("LIMIT 1, 0", with(LIMIT, 1, 0, 0, 1, 2, -1, -2, 32767, -32768), 0, 1, 1, -1, -1, 1, -1);
        StripMixer x = with(LIMIT, 100000, 0, 25000, 25000, 25001, -25000, -25001, -32768);
        x.shape(0, 1024, 0, 0);
        gives("LIMIT 100000, 0", x, 100000, 100000, 100000, -100000, -100000, -100000);
        gives("at p", with(LIMIT, 100, 1, 60, -100, 60, 0), 0, 60, -100, 60, 0);
        gives("above p by one", with(LIMIT, 100, 1, 60, -101, 60, 0), 0, 59, -100, 60, 0);
    }

    /** "the greatest size of the last q + 1 x (this one with it), and z the x of q samples before" */
    private static void limitLooksAtTheLastQAndThisOne() {
        for (int q = 0; q <= 16; q++) {
            for (int loud : new int[] {200, -200}) {
                int[] row = new int[40];
                row[10] = 50;
                row[10 + q] = q == 0 ? 50 : loud;
                StripMixer x = with(LIMIT, 100, q, row);
                Setup.renders("loud just in time, q " + q, x, 0, 10 + q, q == 0 ? 50 : 25);
                row[10 + q] = q == 0 ? 50 : 0;
                row[11 + q] = loud;
                x = with(LIMIT, 100, q, row);
                Setup.renders("loud one too late, q " + q, x, 0, 10 + q, 50);
            }
        }
    }

    /** "the greatest size of the last q + 1 x": and of no older one */
    private static void limitForgetsWhatIsOlder() {
        for (int q = 0; q <= 16; q++) {
            for (int loud : new int[] {200, -200}) {
                int[] row = new int[60];
                row[10] = loud;
                row[11] = 50;
                row[11 + q] = 50;
                StripMixer x = with(LIMIT, 100, q, row);
                Setup.renders("loud and then not, q " + q, x, 0, 9 + q, 0, loud / 2, 50);
            }
        }
        gives("the greatest goes, another is left", with(LIMIT, 100, 2, 400, 200, 50, 50, 50),
            0, 0, 100, 100, 50, 50, 50);
        gives("two as great", with(LIMIT, 100, 1, 200, -200, 50, 100), 0, 100, -100, 50, 100, 0);
    }

    /** "rounded to 0" */
    private static void limitRoundsTo0() {
        gives("q 1", with(LIMIT, 3, 1, -3, 4, -3, -4, 3, 4, 1, -1), 0, -2, 3, -2, -3, 2, 3, 1, -1, 0);
        gives("nothing is left", with(LIMIT, 1, 1, -1, 2, 1, -3, -2), 0, 0, 1, 0, -1, -1);
    }

    /** "Its DELAY is q. (x before time 0 are 0.)" */
    private static void limitIsDelayedByQ() {
        for (int q = 0; q <= 16; q++) {
            StripMixer x = with(LIMIT, 100000, q, -7, 8);
            int[] due = new int[q + 3];
            due[q] = -7;
            due[q + 1] = 8;
            gives("LIMIT 100000, " + q, x, due);
            Ask.due(x, q, "meter", 0, 3);
            Ask.due(x, q, "meter", 7, 3);
        }
    }

    /** "when the size of x is p or more" */
    private static void gateAtAndBelowP() {
        gives("GATE 50, 0", with(GATE, 50, 0, 49, 50, 51, -49, -50, -51, 49), 0, 50, 51, 0, -50, -51, 0);
        gives("GATE 1, 0", with(GATE, 1, 0, 0, 1, -1, 0), 0, 1, -1, 0);
        StripMixer x = with(GATE, 100000, 0, 25000, -25000, 24999, -24999, 32767, -32768);
        x.shape(0, 1024, 0, 0);
        gives("GATE 100000, 0", x, 100000, -100000, 0, 0, 131068, -131072);
    }

    /** "a memory n becomes q + 1; y is x if n is above 0, else 0; then n becomes one less" */
    private static void gateHoldsQMore() {
        for (int q = 0; q <= 64; q++) {
            StripMixer x = new StripMixer();
            Setup.sealFlat(x, 0, 9);
            Setup.seal(x, 1, 60);
            x.clip(0, 0, 1, 0, 1);
            x.clip(0, 1, 0, 0, 64);
            x.clip(0, 65, 0, 0, 64);
            x.effect(0, 0, GATE, 60, q);
            Setup.renders("GATE 60, " + q, x, 0, 0, 60, q == 0 ? 0 : 9);
            Setup.renders("GATE 60, " + q, x, 0, q, q == 0 ? 60 : 9, 0, 0);
        }
    }

    /** "when the size of x is p or more, a memory n becomes q + 1": whatever it was */
    private static void gateBeginsAnew() {
        gives("at once", with(GATE, 60, 2, 60, 60, 9, 9, 9), 60, 60, 9, 9, 0);
        gives("in the last held one", with(GATE, 60, 2, 60, 9, 60, 9, 9, 9), 60, 9, 60, 9, 9, 0);
        gives("just closed", with(GATE, 60, 1, 60, 9, -60, 9, 9), 60, 9, -60, 9, 0);
        gives("closed", with(GATE, 60, 1, 60, 9, 9, -60, 9, 9), 60, 9, 0, -60, 9, 0);
    }

    /** "p 0 .. 100000": with 0 it is always open */
    private static void gateOfP0() {
        gives("GATE 0, 0", with(GATE, 0, 0, 0, 1, -1, 0, 32767, -32768), 0, 1, -1, 0, 32767, -32768);
        gives("GATE 0, 64", with(GATE, 0, 64, 0, 1, -1, 0, 32767, -32768), 0, 1, -1, 0, 32767, -32768);
    }

    /** "y is x, but -p if x is less, p if it is more" */
    private static void clampAtP() {
        gives("CLAMP 50", with(CLAMP, 50, 0, 49, 50, 51, -49, -50, -51, 32767, -32768),
            49, 50, 50, -49, -50, -50, 50, -50);
        gives("CLAMP 0", with(CLAMP, 0, 0, 1, -1, 0, 32767, -32768), 0, 0, 0, 0, 0);
        gives("CLAMP 1", with(CLAMP, 1, 0, 1, -1, 0, 2, -2), 1, -1, 0, 1, -1);
        StripMixer x = with(CLAMP, 100000, 0, 25000, 25001, -25000, -25001);
        x.shape(0, 1024, 0, 0);
        gives("CLAMP 100000", x, 100000, 100000, -100000, -100000);
    }
}
