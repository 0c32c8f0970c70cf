/** Calls of the program by their names, so that a test writes each call once; a boolean is 1 or 0. */
final class Ask {
    private Ask() {
    }

    /** The call must give this answer; a void call gives 0. */
    static void due(StripMixer x, long due, String name, long... a) {
        Check.same(text(name, a), answer(x, name, a), Long.toString(due));
    }

    /** The call must not throw. */
    static void done(StripMixer x, String name, long... a) {
        due(x, 0, name, a);
    }

    static void index(StripMixer x, String name, long... a) {
        Check.same(text(name, a), answer(x, name, a), "java.lang.IndexOutOfBoundsException");
    }

    static String text(String name, long... a) {
        String list = java.util.Arrays.toString(a);
        return name + "(" + list.substring(1, list.length() - 1) + ")";
    }

    /** The answer, or the name of the exception. */
    static String answer(StripMixer x, String name, long... a) {
        try {
            return Long.toString(ask(x, name, a));
        } catch (RuntimeException e) {
            return e.getClass().getName();
        }
    }

    static int[] ints(long... a) {
        int[] n = new int[a.length];
        for (int i = 0; i < n.length; i++) {
            n[i] = (int) a[i];
        }
        return n;
    }

    private static long ask(StripMixer x, String name, long[] a) {
        int[] n = ints(a);
        switch (name) {
            case "samples": x.samples(n[0], n[1], a[2]); return 0;
            case "seal": x.seal(n[0], n[1]); return 0;
            case "take": return x.take(n[0], n[1]);
            case "clip": return x.clip(n[0], n[1], n[2], n[3], n[4]);
            case "drop": x.drop(n[0]); return 0;
            case "move": return x.move(n[0], n[1], n[2]) ? 1 : 0;
            case "split": return x.split(n[0], n[1]);
            case "shape": x.shape(n[0], n[1], n[2], n[3]); return 0;
            case "route": return x.route(n[0], n[1]) ? 1 : 0;
            case "send": return x.send(n[0], n[1], n[2]) ? 1 : 0;
            case "effect": x.effect(n[0], n[1], n[2], n[3], n[4]); return 0;
            case "fader": x.fader(n[0], n[1]); return 0;
            case "point": return x.point(n[0], n[1], n[2], n[3] == 1) ? 1 : 0;
            case "turn": return x.turn(n[0], n[1]);
            case "render": x.render(n[0], n[1]); return 0;
            case "sample": return x.sample(n[0], n[1]);
            case "meter": return x.meter(n[0], n[1]);
            case "bounce": return x.bounce(n[0], n[1], n[2]);
            default: throw new UnsupportedOperationException(name);
        }
    }
}
