/** Desks on which every part is in use, so that any change of one can be seen. */
final class Busy {
    private Busy() {
    }

    /**
     * Takes 0 (20 samples), 1 (12) and 7 (1) are sealed, 2 is open with samples. The clips are 0, 1, 2, 4, 5, 6 and 7.
     * Tracks 0 and 4 go over bus 5, track 2 over bus 6; there are sends from 0 to 6, from 1 to 5 and from 6 to 5.
     * Strip 0 has two points, 5 one, and 7 eight. Track 3 is muted, bus 5 solo. The last block has 24 samples.
     */
    static StripMixer desk() {
        StripMixer x = new StripMixer();
        takes(x);
        clips(x);
        effects(x);
        ways(x);
        faders(x);
        x.turn(3, 1);
        x.turn(5, 3);
        x.render(10, 24);
        return x;
    }

    /** As desk(), but with all 16 clips. */
    static StripMixer fullOfClips() {
        StripMixer x = desk();
        for (int i = 0; i < 9; i++) {
            x.clip(i % 4, 200 + 10 * i, 0, i, 5);
        }
        return x;
    }

    /** As desk(), but without an open take. */
    static StripMixer fullOfTakes() {
        StripMixer x = desk();
        for (int t = 2; t < 7; t++) {
            x.seal(t, 10 * t);
        }
        return x;
    }

    private static void takes(StripMixer x) {
        for (int i = 0; i < 20; i += 4) {
            x.samples(0, i, Setup.four(9000 - 700 * i, -5000 + 900 * i, 12000 - 300 * i, -11000 + 100 * i));
        }
        for (int i = 0; i < 12; i += 4) {
            x.samples(1, i, Setup.four(-3000 + 500 * i, 8000 - 100 * i, -7000 - 200 * i, 32767 - i));
        }
        x.samples(2, 0, Setup.four(21, 22, 23, 24));
        x.samples(2, 4, Setup.four(-25, -26, -27, -28));
        x.samples(7, 0, Setup.four(-32768, 71, 72, 73));
        x.seal(0, 20);
        x.seal(1, 12);
        x.seal(7, 1);
    }

    private static void clips(StripMixer x) {
        x.clip(0, 0, 0, 0, 20);
        x.clip(0, 40, 1, 2, 10);
        x.clip(1, 5, 1, 0, 12);
        x.clip(1, 90, 0, 0, 1);
        x.clip(2, 100, 0, 5, 15);
        x.clip(3, 1012, 1, 0, 12);
        x.clip(3, 0, 0, 0, 20);
        x.clip(1, 60, 7, 0, 1);
        x.drop(3);
        x.shape(0, 300, 3, 4);
        x.shape(1, 256, 2, 3);
        x.shape(2, 128, 0, 6);
    }

    private static void effects(StripMixer x) {
        x.effect(0, 0, 4, 5000, 3);
        x.effect(0, 2, 1, 200, 0);
        x.effect(1, 0, 3, 7, 128);
        x.effect(2, 1, 2, 100, 0);
        x.effect(3, 0, 5, 500, 4);
        x.effect(4, 0, 6, 9000, 0);
        x.effect(5, 1, 4, 8000, 2);
        x.effect(6, 2, 1, 300, 0);
        x.effect(7, 0, 4, 20000, 5);
    }

    private static void ways(StripMixer x) {
        x.route(0, 4);
        x.route(4, 5);
        x.route(2, 6);
        x.send(0, 6, 100);
        x.send(1, 5, 300);
        x.send(6, 5, 50);
    }

    private static void faders(StripMixer x) {
        for (int strip = 0; strip < 8; strip++) {
            x.fader(strip, 200 + 10 * strip);
        }
        x.point(0, 0, 256, true);
        x.point(0, 40, 128, false);
        x.point(5, 30, 270, false);
        for (int i = 0; i < 8; i++) {
            x.point(7, 20 * i, 100 + 30 * i, i % 2 == 0);
        }
    }
}
