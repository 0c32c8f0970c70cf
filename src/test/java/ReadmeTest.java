/** The example of README.md, call by call, answers what its comments say. */
public final class ReadmeTest {
    public static void main(String[] args) {
        StripMixer desk = new StripMixer();
        desk.samples(0, 0, 1000L | 2000L << 16 | 3000L << 32 | 4000L << 48);
        desk.seal(0, 4);
        int clip = desk.clip(0, 100, 0, 0, 4);
        Check.same("clip(0, 100, 0, 0, 4)", clip, 0);
        desk.shape(clip, 256, 1, 1);
        Setup.renders("the clip", desk, 0, 100, 500, 2000, 3000, 2000, 0);

        desk.effect(0, 0, 3, 8, 128);
        Check.same("send(0, 4, 64)", desk.send(0, 4, 64), true);
        desk.effect(4, 0, 4, 600, 2);
        Check.same("point(7, 0, 256, true)", desk.point(7, 0, 256, true), true);
        Check.same("point(7, 128, 0, false)", desk.point(7, 128, 0, false), true);

        desk.render(96, 32);
        Check.same("sample(7, 8)", desk.sample(7, 8), 900);
        Check.same("meter(7, 0)", desk.meter(7, 0), 900);
        Check.same("meter(7, 3)", desk.meter(7, 3), 2);
        int bounced = desk.bounce(7, 96, 32);
        Check.same("bounce(7, 96, 32)", bounced, 1);
        Check.same("take(1, -1)", desk.take(bounced, -1), 32);
        Check.end();
    }
}
