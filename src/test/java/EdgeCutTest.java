/** "A number is CUT by being made -16777216 if it is less, 16777216 if it is more": wherever the terms cut one. */
public final class EdgeCutTest {
    private static final int FAR = 16777216;

    public static void main(String[] args) {
        sums();
        cutOnceAllAreAdded();
        sendsAreNotCut();
        widestSum();
        faders();
        gain();
        echo();
        smooth();
        limit();
        gate();
        clamp();
        Check.end();
    }

    /** "they are added up and cut" */
    private static void sums() {
        int[] sums = {FAR - 1, FAR, FAR + 1, FAR + 1023, 1 - FAR, -FAR, -FAR - 1, -FAR - 1023};
        StripMixer x = Setup.into4(sums);
        Setup.renders("as it is or cut", x, 4, 0, FAR - 1, FAR, FAR, FAR, 1 - FAR, -FAR, -FAR, -FAR);
        x.effect(4, 0, 1, 128, 0);
        int half = FAR / 2;
        Setup.renders("cut before the effects", x, 4, 0, half - 1, half, half, half, -half, -half, -half, -half);
        x.effect(4, 0, 0, 0, 0);
        x.fader(4, 128);
        Setup.renders("cut before the fader", x, 4, 0, half - 1, half, half, half, -half, -half, -half, -half);
        x.fader(4, 255);
        Setup.renders("cut before the fader", x, 4, 0, 16711679, 16711680, 16711680, 16711680,
            -16711680, -16711680, -16711680, -16711680);
    }

    /** "they are added up and cut": not one after the other */
    private static void cutOnceAllAreAdded() {
        for (int sign : new int[] {1, -1}) {
            StripMixer x = farTracks(sign, sign, -sign, 0);
            Setup.renders("far twice and back once", x, 7, 0, sign * FAR, 0);
            x = farTracks(-sign, sign, sign, sign);
            Setup.renders("back once and far three times", x, 7, 0, sign * FAR, 0);
            x = farTracks(sign, -sign, sign, -sign);
            Setup.renders("to and fro", x, 7, 0, 0, 0);
        }
    }

    /** "those at the level of the send" */
    private static void sendsAreNotCut() {
        for (int sign : new int[] {1, -1}) {
            StripMixer x = farTracks(sign, -sign, -sign, -sign);
            for (int track = 1; track < 4; track++) {
                x.route(track, 5);
            }
            x.send(0, 5, 1024);
            Setup.renders("four less three", x, 5, 0, sign * FAR, 0);
            x.send(0, 5, 1023);
            Setup.renders("nearly four less three", x, 5, 0, sign * (FAR - 65536), 0);
        }
    }

    /** "(of one that does both, both)": all strips but the last, with the greatest level */
    private static void widestSum() {
        for (int sign : new int[] {1, -1}) {
            StripMixer x = farTracks(sign, sign, sign, sign);
            for (int track = 0; track < 4; track++) {
                x.send(track, 4, 1024);
                x.send(track, 5, 1024);
                x.route(track, 6);
                x.send(track, 6, 1024);
            }
            for (int bus = 4; bus < 6; bus++) {
                x.route(bus, 6);
                x.send(bus, 6, 1024);
            }
            x.fader(6, 64);
            Setup.renders("six times five times as far", x, 6, 0, sign * FAR / 4, 0);
        }
    }

    /** On each track one sample, at time 0, as far out as can be, by its sign. */
    private static StripMixer farTracks(int... signs) {
        StripMixer x = new StripMixer();
        for (int track = 0; track < 4; track++) {
            Setup.seal(x, track, 16384 * signs[track]);
            x.clip(track, 0, track, 0, 1);
            x.shape(track, 1024, 0, 0);
            for (int slot = 0; slot < 3; slot++) {
                x.effect(track, slot, 1, 1024, 0);
            }
            x.fader(track, 1024);
        }
        return x;
    }

    /** "then at the fader's level, and is cut" */
    private static void faders() {
        StripMixer x = Setup.into4(8388607, 8388608, 8388609, -8388607, -8388608, -8388609);
        x.fader(4, 512);
        Setup.renders("twice", x, 4, 0, FAR - 2, FAR, FAR, 2 - FAR, -FAR, -FAR);
        x.fader(4, 1024);
        Setup.renders("four times", x, 4, 0, FAR, FAR, FAR, -FAR, -FAR, -FAR);
        x = Setup.into4(16711935, 16711936, -16711934, -16711935, -16711936);
        x.fader(4, 257);
        Setup.renders("by a 256th more", x, 4, 0, FAR - 1, FAR, 1 - FAR, -FAR, -FAR);
        x.point(4, 0, 1024, false);
        Setup.renders("by a point", x, 4, 0, FAR, FAR, -FAR, -FAR, -FAR);
    }

    /** "one that goes, y, which is cut": seen by a smaller level behind it */
    private static void gain() {
        StripMixer x = Setup.into4(4194303, 4194304, 4194305, FAR, -4194303, -4194304, -4194305, -FAR);
        x.effect(4, 0, 1, 1024, 0);
        Setup.renders("GAIN", x, 4, 0, FAR - 4, FAR, FAR, FAR, 4 - FAR, -FAR, -FAR, -FAR);
        x.effect(4, 1, 1, 64, 0);
        Setup.renders("GAIN, then less", x, 4, 0, 4194303, 4194304, 4194304, 4194304,
            -4194303, -4194304, -4194304, -4194304);
        x.effect(4, 1, 0, 0, 0);
        x.fader(4, 64);
        Setup.renders("GAIN, then the fader", x, 4, 0, 4194303, 4194304, 4194304, 4194304,
            -4194303, -4194304, -4194304, -4194304);
    }

    /** "what y was p samples before": after it was cut */
    private static void echo() {
        StripMixer x = Setup.into4(FAR, 8388607, 8388609, 8388610, 0, 0);
        x.effect(4, 0, 3, 1, 128);
        Setup.renders("ECHO", x, 4, 0, FAR, FAR - 1, FAR, FAR, 8388608, 4194304);
        StripMixer y = Setup.into4(-FAR, -8388607, -8388608, -8388610, 0, 0);
        y.effect(4, 0, 3, 1, 128);
        Setup.renders("ECHO", y, 4, 0, -FAR, 1 - FAR, -FAR, -FAR, -8388608, -4194304);
        StripMixer z = Setup.into4(FAR, FAR, FAR, 0, 0);
        z.effect(4, 0, 3, 1, 255);
        z.effect(4, 1, 1, 128, 0);
        Setup.renders("ECHO, then less", z, 4, 0, 8388608, 8388608, 8388608, 8355840, 8323200);
    }

    /** "(x - m) at p": 33554432 is as far as it may be */
    private static void smooth() {
        StripMixer x = Setup.into4(FAR, -FAR, FAR, -FAR, -FAR);
        x.effect(4, 0, 2, 256, 0);
        Setup.renders("SMOOTH 256", x, 4, 0, FAR, -FAR, FAR, -FAR, -FAR);
        x.effect(4, 0, 2, 255, 0);
        Setup.renders("SMOOTH 255", x, 4, 0, 16711680, -16646400, 16646655, -16646655, -16776706);
        x.effect(4, 0, 2, 128, 0);
        Setup.renders("SMOOTH 128", x, 4, 0, 8388608, -4194304, 6291456, -5242880, -11010048);
    }

    /** "z times p, divided by M": as far out as can be */
    private static void limit() {
        StripMixer x = Setup.into4(FAR, -FAR, FAR - 1, 100001, -100001, 100000, -100000);
        x.effect(4, 0, 4, 100000, 0);
        Setup.renders("LIMIT", x, 4, 0, 100000, -100000, 100000, 100000, -100000, 100000, -100000);
        x.effect(4, 0, 4, 99999, 6);
        Setup.renders("LIMIT", x, 4, 6, 99999, -99999, 99999, 99999, -99999, 99999, -99999);
        x.effect(4, 0, 4, 1, 0);
        Setup.renders("LIMIT", x, 4, 0, 1, -1, 1, 1, -1, 1, -1);
    }

    /** "the size of x is p or more": as far out as can be */
    private static void gate() {
        StripMixer x = Setup.into4(FAR, -FAR, 99999, 100000, -100000, -99999);
        x.effect(4, 0, 5, 100000, 0);
        Setup.renders("GATE", x, 4, 0, FAR, -FAR, 0, 100000, -100000, 0);
    }

    /** "-p if x is less, p if it is more": as far out as can be */
    private static void clamp() {
        StripMixer x = Setup.into4(FAR, -FAR, 99999, 100000, 100001, -99999, -100000, -100001);
        x.effect(4, 0, 6, 100000, 0);
        Setup.renders("CLAMP", x, 4, 0, 100000, -100000, 99999, 100000, 100000, -99999, -100000, -100000);
    }
}
