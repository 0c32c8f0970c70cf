/** Takes and blocks that many tests need. */
final class Setup {
    private Setup() {
    }

    static long four(int a, int b, int c, int d) {
        return (a & 0xffffL) | (b & 0xffffL) << 16 | (c & 0xffffL) << 32 | (d & 0xffffL) << 48;
    }

    /** Take t is sealed with these samples. */
    static void seal(StripMixer x, int t, int... samples) {
        int[] row = java.util.Arrays.copyOf(samples, 64);
        for (int i = 0; i < 64; i += 4) {
            x.samples(t, i, four(row[i], row[i + 1], row[i + 2], row[i + 3]));
        }
        x.seal(t, samples.length);
    }

    /** Take t is sealed with 64 times the same sample. */
    static void sealFlat(StripMixer x, int t, int sample) {
        int[] row = new int[64];
        java.util.Arrays.fill(row, sample);
        seal(x, t, row);
    }

    /** A new object with one clip of these samples at time 0 on each of the tracks named by bits. */
    static StripMixer tracks(int bits, int... samples) {
        StripMixer x = new StripMixer();
        seal(x, 0, samples);
        for (int track = 0; track < 4; track++) {
            if ((bits >> track & 1) == 1) {
                x.clip(track, 0, 0, 0, samples.length);
            }
        }
        return x;
    }

    /** Track 0 filled with the same sample from time 0 on for so many times 64 samples. */
    static StripMixer flat(int sample, int clips) {
        StripMixer x = new StripMixer();
        sealFlat(x, 0, sample);
        for (int i = 0; i < clips; i++) {
            x.clip(0, 64 * i, 0, 0, 64);
        }
        return x;
    }

    /** A block is rendered, and a strip's samples in it are as due from its beginning on. */
    static void renders(String what, StripMixer x, int strip, int from, int... due) {
        x.render(from, due.length);
        shows(what, x, strip, due);
    }

    /** A strip's samples in the last block are as due from its beginning on. */
    static void shows(String what, StripMixer x, int strip, int... due) {
        for (int i = 0; i < due.length; i++) {
            Check.same(what + ": sample(" + strip + ", " + i + ")", x.sample(strip, i), due[i]);
        }
    }

    /**
     * What comes into bus 4 from time 0 on adds up to these numbers, before it is cut: of track 0 the 1024s, of track 1
     * the rest. None may be further out than 16777216 by 1024 or more.
     */
    static StripMixer into4(int... sums) {
        StripMixer x = new StripMixer();
        int[] rough = new int[sums.length];
        int[] fine = new int[sums.length];
        for (int i = 0; i < sums.length; i++) {
            rough[i] = sums[i] / 1024;
            fine[i] = sums[i] % 1024;
        }
        seal(x, 0, rough);
        seal(x, 1, fine);
        for (int track = 0; track < 2; track++) {
            x.clip(track, 0, track, 0, sums.length);
            x.route(track, 4);
        }
        x.shape(0, 1024, 0, 0);
        for (int slot = 0; slot < 3; slot++) {
            x.effect(0, slot, 1, 1024, 0);
        }
        x.fader(0, 1024);
        return x;
    }
}
