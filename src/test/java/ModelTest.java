/** Runs of 512 calls, always the same ones, answered by the program as by the plain model. */
public final class ModelTest {
    private static final int RUNS = 1000;
    private static final int CALLS = 512;
    private static final String[] NAMES = {"samples", "seal", "take", "clip", "drop", "move", "split", "shape", "route",
        "send", "effect", "fader", "point", "turn", "render", "sample", "meter", "bounce"};
    /** How often each call comes, in the order of the names. */
    private static final int[] WEIGHTS = {6, 2, 2, 8, 1, 4, 4, 6, 4, 6, 10, 3, 5, 4, 6, 3, 5, 1};
    private static final int RENDER = 14;
    private static final int SAMPLE = 15;
    private static final int METER = 16;
    private static final int BOUNCE = 17;

    private final StripMixer x = new StripMixer();
    private final PlainModel model = new PlainModel();
    private int calls;
    private long seed;

    private ModelTest(long firstSeed) {
        seed = firstSeed;
    }

    public static void main(String[] args) {
        for (int run = 0; run < RUNS; run++) {
            new ModelTest(run * 7919L + 1).run(run);
        }
        Check.end();
    }

    private void run(int run) {
        int filled = 70 + next(230);
        for (int n = 0; calls < CALLS; n++) {
            int call = n < 70 ? early(n) : pick(n < filled ? RENDER : NAMES.length);
            long[] a = arguments(call);
            String what = "run " + run + ", call " + n + ": " + Ask.text(NAMES[call], a);
            same(what, call, a);
            if (call == RENDER || call == BOUNCE) {
                sameBlock(what);
            }
            // Seldom, so that a render often comes without a call of meter() before it.
            if (next(20) == 0) {
                sameNow(what);
            }
        }
    }

    /** One call on both, unless the object has had all its calls. */
    private void same(String what, int call, long... a) {
        if (calls < CALLS) {
            calls++;
            Check.same(what, Ask.answer(x, NAMES[call], a), answer(call, a));
        }
    }

    /** The first calls fill and seal some takes, so that there is something to hear. */
    private int early(int n) {
        return n < 48 ? 0 : n < 54 ? 1 : 3;
    }

    private void sameBlock(String what) {
        int strip = next(3) == 0 ? next(8) : 7;
        for (int i = 0; i <= 64; i++) {
            same(what + ": sample(" + strip + ", " + i + ")", SAMPLE, strip, i);
        }
        for (int s = 0; s < 8; s++) {
            for (int meter = 0; meter < 3; meter++) {
                same(what + ": meter(" + s + ", " + meter + ")", METER, s, meter);
            }
        }
    }

    private void sameNow(String what) {
        for (int s = 0; s < 8; s++) {
            same(what + ": meter(" + s + ", 3)", METER, s, 3);
            same(what + ": meter(" + s + ", 4)", METER, s, 4);
        }
    }

    private String answer(int call, long[] a) {
        try {
            return Long.toString(askModel(model, call, a));
        } catch (RuntimeException e) {
            return e.getClass().getName();
        }
    }

    /** The next number of a fixed row, 0 .. bound - 1. */
    private int next(int bound) {
        seed = seed * 6364136223846793005L + 1442695040888963407L;
        return (int) ((seed >>> 33) % bound);
    }

    /** One of the first so many names. */
    private int pick(int names) {
        int sum = 0;
        for (int i = 0; i < names; i++) {
            sum += WEIGHTS[i];
        }
        int left = next(sum);
        int call = 0;
        while (left >= WEIGHTS[call]) {
            left -= WEIGHTS[call];
            call++;
        }
        return call;
    }

    /** Mostly low .. high, now and then just or far outside. */
    private int some(int low, int high) {
        int odd = next(60);
        if (odd == 0) {
            int[] outside = {low - 1, high + 1, Integer.MIN_VALUE, Integer.MAX_VALUE};
            return outside[next(4)];
        }
        return odd == 1 ? low : odd == 2 ? high : low + next(high - low + 1);
    }

    private long loud() {
        long four = 0;
        int size = 1 << (next(2) == 0 ? 15 : next(16));
        for (int j = 0; j < 4; j++) {
            four = four << 16 | (next(2 * size + 1) - size & 0xffffL);
        }
        return four;
    }

    private int level() {
        int odd = next(10);
        return odd < 3 ? 1024 : odd == 3 ? next(3) : some(0, 1024);
    }

    private int time() {
        return next(6) > 0 ? some(0, 150) : some(0, 1023);
    }

    private long[] arguments(int call) {
        switch (NAMES[call]) {
            case "samples": return new long[] {some(0, 7), some(0, 60), loud()};
            case "seal": return new long[] {some(0, 7), next(4) == 0 ? some(1, 64) : some(40, 64)};
            case "take": return new long[] {some(0, 7), some(-1, 64)};
            case "clip": return new long[] {some(0, 3), time(), some(0, 7), some(0, 20), some(1, 44)};
            case "drop": return new long[] {some(0, 15)};
            case "move": return new long[] {some(0, 15), some(0, 3), time()};
            case "split": return new long[] {some(0, 15), some(1, 30)};
            case "shape": return new long[] {some(0, 15), level(), some(0, 20), some(0, 20)};
            case "route": return new long[] {some(0, 6), some(4, 7)};
            case "send": return new long[] {some(0, 6), some(4, 6), level()};
            case "effect": return effect();
            case "fader": return new long[] {some(0, 7), level()};
            case "point": return new long[] {some(0, 7), time(), level(), next(2)};
            case "turn": return new long[] {some(0, 7), next(8) == 0 ? some(0, 4) : 2 + 2 * next(2)};
            case "render": return new long[] {time(), some(1, 64)};
            case "sample": return new long[] {some(0, 7), some(0, 63)};
            case "meter": return new long[] {some(0, 7), some(0, 4)};
            default: return new long[] {some(0, 7), time(), some(1, 64)};
        }
    }

    private long[] effect() {
        int[] leastP = {0, 0, 0, 1, 1, 0, 0};
        int[] mostP = {9, 1024, 256, 32, 100000, 100000, 100000};
        int[] mostQ = {9, 9, 9, 255, 16, 64, 9};
        int kind = next(4) == 0 ? 1 : some(0, 6);
        int known = kind < 0 || kind > 6 ? 0 : kind;
        int p = known == 1 ? level() : some(leastP[known], known < 4 || next(2) == 0 ? mostP[known] : 20000);
        return new long[] {some(0, 7), some(0, 2), kind, p, some(0, mostQ[known])};
    }

    private static long askModel(PlainModel x, int call, long[] given) {
        int[] a = Ask.ints(given);
        switch (NAMES[call]) {
            case "samples": return x.samples(a[0], a[1], given[2]);
            case "seal": return x.seal(a[0], a[1]);
            case "take": return x.take(a[0], a[1]);
            case "clip": return x.clip(a[0], a[1], a[2], a[3], a[4]);
            case "drop": return x.drop(a[0]);
            case "move": return x.move(a[0], a[1], a[2]);
            case "split": return x.split(a[0], a[1]);
            case "shape": return x.shape(a[0], a[1], a[2], a[3]);
            case "route": return x.route(a[0], a[1]);
            case "send": return x.send(a[0], a[1], a[2]);
            case "effect": return x.effect(a[0], a[1], a[2], a[3], a[4]);
            case "fader": return x.fader(a[0], a[1]);
            case "point": return x.point(a[0], a[1], a[2], a[3] == 1);
            case "turn": return x.turn(a[0], a[1]);
            case "render": return x.render(a[0], a[1]);
            case "sample": return x.sample(a[0], a[1]);
            case "meter": return x.meter(a[0], a[1]);
            default: return x.bounce(a[0], a[1], a[2]);
        }
    }
}
