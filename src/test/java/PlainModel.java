import java.util.ArrayList;
import java.util.List;
import java.util.Map;
import java.util.NoSuchElementException;
import java.util.TreeMap;

/**
 * The document again, word by word and without a care for speed: what goes out of a strip at a time is asked back
 * through all strips that feed it, and each effect looks at the whole row that came before.
 */
final class PlainModel {
    private static final long FAR = 16777216;

    private final long[][] takes = new long[8][64];
    private final int[] lengths = new int[8];
    /** Of each clip: track, at, take, from, length, level, in, out. */
    private final TreeMap<Integer, int[]> clips = new TreeMap<>();
    private final int[] routes = {7, 7, 7, 7, 7, 7, 7, -1};
    private final int[][] sends = new int[8][8];
    private final int[][][] effects = new int[8][3][3];
    private final int[] faders = {256, 256, 256, 256, 256, 256, 256, 256};
    /** Of each point, by its time: level, joined. */
    private final List<TreeMap<Integer, int[]>> points = new ArrayList<>();
    private final boolean[] muted = new boolean[8];
    private final boolean[] solo = new boolean[8];
    private final long[][] block = new long[8][0];

    PlainModel() {
        for (int s = 0; s < 8; s++) {
            points.add(new TreeMap<>());
        }
    }

    long samples(int t, int i, long four) {
        index(t < 0 || t > 7 || i < 0 || i > 60);
        state(lengths[t] > 0);
        for (int j = 0; j < 4; j++) {
            long bits = (four >>> (16 * j)) % 65536;
            bits = bits < 0 ? bits + 65536 : bits;
            takes[t][i + j] = bits < 32768 ? bits : bits - 65536;
        }
        return 0;
    }

    long seal(int t, int length) {
        index(t < 0 || t > 7);
        argument(length < 1 || length > 64);
        state(lengths[t] > 0);
        lengths[t] = length;
        return 0;
    }

    long take(int t, int i) {
        index(t < 0 || t > 7);
        index(i < -1 || i >= (lengths[t] == 0 ? 64 : lengths[t]));
        return i < 0 ? lengths[t] : takes[t][i];
    }

    long clip(int track, int at, int t, int from, int length) {
        argument(track < 0 || track > 3 || at < 0 || at > 1023 || t < 0 || t > 7 || from < 0 || length < 1);
        argument((long) at + length > 1024);
        state(lengths[t] == 0 || (long) from + length > lengths[t]);
        if (clips.size() == 16 || !isFree(-1, track, at, length)) {
            return -1;
        }
        int c = leastNumber();
        clips.put(c, new int[] {track, at, t, from, length, 256, 0, 0});
        return c;
    }

    long drop(int c) {
        element(c);
        clips.remove(c);
        return 0;
    }

    long move(int c, int track, int at) {
        element(c);
        int[] clip = clips.get(c);
        argument(track < 0 || track > 3 || at < 0 || (long) at + clip[4] > 1024);
        if (!isFree(c, track, at, clip[4])) {
            return 0;
        }
        clip[0] = track;
        clip[1] = at;
        return 1;
    }

    long split(int c, int k) {
        element(c);
        int[] clip = clips.get(c);
        argument(k < 1 || k > clip[4] - 1);
        if (clips.size() == 16 || k < clip[6] || clip[4] - k < clip[7]) {
            return -1;
        }
        int number = leastNumber();
        clips.put(number, new int[] {clip[0], clip[1] + k, clip[2], clip[3] + k, clip[4] - k, clip[5], 0, clip[7]});
        clips.put(c, new int[] {clip[0], clip[1], clip[2], clip[3], k, clip[5], clip[6], 0});
        return number;
    }

    long shape(int c, int level, int in, int out) {
        element(c);
        argument(level < 0 || level > 1024 || in < 0 || out < 0 || (long) in + out > clips.get(c)[4]);
        clips.get(c)[5] = level;
        clips.get(c)[6] = in;
        clips.get(c)[7] = out;
        return 0;
    }

    long route(int strip, int to) {
        argument(strip < 0 || strip > 6 || to < 4 || to > 7);
        int was = routes[strip];
        routes[strip] = to;
        if (reaches(strip, strip)) {
            routes[strip] = was;
            return 0;
        }
        return 1;
    }

    long send(int strip, int bus, int level) {
        argument(strip < 0 || strip > 6 || bus < 4 || bus > 6 || level < 0 || level > 1024);
        int was = sends[strip][bus];
        sends[strip][bus] = level;
        if (reaches(strip, strip)) {
            sends[strip][bus] = was;
            return 0;
        }
        return 1;
    }

    long effect(int strip, int slot, int kind, int p, int q) {
        argument(strip < 0 || strip > 7 || slot < 0 || slot > 2 || kind < 0 || kind > 6);
        int[] leastP = {0, 0, 0, 1, 1, 0, 0};
        int[] mostP = {0, 1024, 256, 32, 100000, 100000, 100000};
        int[] mostQ = {0, 0, 0, 255, 16, 64, 0};
        argument(kind > 0 && (p < leastP[kind] || p > mostP[kind]));
        argument(kind >= 3 && kind <= 5 && (q < 0 || q > mostQ[kind]));
        effects[strip][slot] = new int[] {kind, p, q};
        return 0;
    }

    long fader(int strip, int level) {
        argument(strip < 0 || strip > 7 || level < 0 || level > 1024);
        faders[strip] = level;
        return 0;
    }

    long point(int strip, int time, int level, boolean joined) {
        argument(strip < 0 || strip > 7 || time < 0 || time > 1023 || level < 0 || level > 1024);
        TreeMap<Integer, int[]> own = points.get(strip);
        if (own.size() == 8 && !own.containsKey(time)) {
            return 0;
        }
        own.put(time, new int[] {level, joined ? 1 : 0});
        return 1;
    }

    long turn(int strip, int what) {
        argument(strip < 0 || strip > 7 || what < 0 || what > 4);
        if (what == 0) {
            int were = points.get(strip).size();
            points.get(strip).clear();
            return were;
        }
        boolean[] marks = what < 3 ? muted : solo;
        boolean was = marks[strip];
        marks[strip] = what % 2 == 1;
        return was == marks[strip] ? 0 : 1;
    }

    long render(int from, int n) {
        argument(from < 0 || n < 1 || n > 64 || (long) from + n > 1024);
        for (int s = 0; s < 8; s++) {
            block[s] = java.util.Arrays.copyOfRange(row(s, from + n), from, from + n);
        }
        return 0;
    }

    long sample(int strip, int i) {
        index(strip < 0 || strip > 7 || i < 0 || i >= block[strip].length);
        return block[strip][i];
    }

    long meter(int strip, int what) {
        argument(strip < 0 || strip > 7 || what < 0 || what > 4);
        long answer = what == 3 ? delay(strip) : what == 4 && isHeard(strip) ? 1 : 0;
        for (long y : block[strip]) {
            if (what == 0) {
                answer = Math.max(answer, Math.abs(y));
            } else if (what == 1) {
                answer += y * y;
            } else if (what == 2 && (y < -32768 || y > 32767)) {
                answer++;
            }
        }
        return answer;
    }

    long bounce(int strip, int from, int n) {
        argument(strip < 0 || strip > 7 || from < 0 || n < 1 || n > 64 || (long) from + n > 1024);
        for (int t = 0; t < 8; t++) {
            if (lengths[t] == 0) {
                render(from, n);
                for (int i = 0; i < n; i++) {
                    takes[t][i] = Math.max(-32768, Math.min(32767, block[strip][i]));
                }
                lengths[t] = n;
                return t;
            }
        }
        return -1;
    }

    private static void index(boolean bad) {
        if (bad) {
            throw new IndexOutOfBoundsException();
        }
    }

    private static void argument(boolean bad) {
        if (bad) {
            throw new IllegalArgumentException();
        }
    }

    private static void state(boolean bad) {
        if (bad) {
            throw new IllegalStateException();
        }
    }

    private void element(int c) {
        if (!clips.containsKey(c)) {
            throw new NoSuchElementException();
        }
    }

    private int leastNumber() {
        int c = 0;
        while (clips.containsKey(c)) {
            c++;
        }
        return c;
    }

    private boolean isFree(int except, int track, int at, int length) {
        for (int time = at; time < at + length; time++) {
            for (Map.Entry<Integer, int[]> entry : clips.entrySet()) {
                int[] clip = entry.getValue();
                if (entry.getKey() != except && clip[0] == track && time >= clip[1] && time < clip[1] + clip[4]) {
                    return false;
                }
            }
        }
        return true;
    }

    private boolean feeds(int a, int b) {
        return routes[a] == b || sends[a][b] > 0;
    }

    /** Whether a way of at most eight strips leads from a to b: with a ring there may be longer ones. */
    private boolean reaches(int a, int b) {
        boolean[] at = new boolean[8];
        at[a] = true;
        for (int way = 0; way < 8; way++) {
            boolean[] next = new boolean[8];
            for (int i = 0; i < 8; i++) {
                for (int j = 0; j < 8; j++) {
                    next[j] |= at[i] && feeds(i, j);
                }
            }
            if (next[b]) {
                return true;
            }
            at = next;
        }
        return false;
    }

    private boolean isHeard(int strip) {
        boolean any = false;
        boolean along = false;
        for (int s = 0; s < 8; s++) {
            any |= solo[s];
            along |= solo[s] && (s == strip || reaches(strip, s) || reaches(s, strip));
        }
        return !muted[strip] && (!any || along);
    }

    private int delayIn(int strip) {
        int most = 0;
        for (int s = 0; s < 8; s++) {
            most = feeds(s, strip) ? Math.max(most, delay(s)) : most;
        }
        return most;
    }

    private int delay(int strip) {
        int sum = delayIn(strip);
        for (int[] effect : effects[strip]) {
            sum += effect[0] == 4 ? effect[2] : 0;
        }
        return sum;
    }

    private static long down(long a, long b) {
        return (a - ((a % b) + b) % b) / b;
    }

    private static long at(long x, long level) {
        return down(x * level, 256);
    }

    private static long cut(long x) {
        return x < -FAR ? -FAR : x > FAR ? FAR : x;
    }

    private long[] row(int strip, int end) {
        boolean heard = isHeard(strip);
        long[] x = strip < 4 ? clipRow(strip, end) : mixRow(strip, end);
        for (int[] effect : effects[strip]) {
            x = through(effect[0], effect[1], effect[2], x);
        }
        for (int t = 0; t < end; t++) {
            x[t] = heard ? cut(at(x[t], level(strip, t - t % 16))) : 0;
        }
        return x;
    }

    private long[] clipRow(int track, int end) {
        long[] x = new long[end];
        for (int[] clip : clips.values()) {
            for (int k = 0; k < clip[4]; k++) {
                if (clip[0] == track && clip[1] + k < end) {
                    x[clip[1] + k] = clipSample(clip, k);
                }
            }
        }
        return x;
    }

    private long clipSample(int[] clip, int k) {
        long x = at(takes[clip[2]][clip[3] + k], clip[5]);
        if (k < clip[6]) {
            x = down(x * (k + 1), clip[6] + 1);
        }
        if (clip[4] - 1 - k < clip[7]) {
            x = down(x * (clip[4] - k), clip[7] + 1);
        }
        return x;
    }

    private long[] mixRow(int strip, int end) {
        long[] sum = new long[end];
        for (int s = 0; s < 7; s++) {
            if (feeds(s, strip)) {
                long[] out = row(s, end);
                int later = delayIn(strip) - delay(s);
                for (int t = later; t < end; t++) {
                    sum[t] += routes[s] == strip ? out[t - later] : 0;
                    sum[t] += at(out[t - later], sends[s][strip]);
                }
            }
        }
        for (int t = 0; t < end; t++) {
            sum[t] = cut(sum[t]);
        }
        return sum;
    }

    private long level(int strip, int s) {
        TreeMap<Integer, int[]> own = points.get(strip);
        if (own.isEmpty()) {
            return faders[strip];
        }
        Map.Entry<Integer, int[]> last = own.floorEntry(s);
        if (last == null) {
            return own.firstEntry().getValue()[0];
        }
        Map.Entry<Integer, int[]> next = own.higherEntry(s);
        long level = last.getValue()[0];
        if (last.getValue()[1] == 0 || next == null) {
            return level;
        }
        return level + down((next.getValue()[0] - level) * (s - last.getKey()), next.getKey() - last.getKey());
    }

    private static long[] through(int kind, int p, int q, long[] x) {
        long[] y = new long[x.length];
        long m = 0;
        for (int t = 0; t < x.length; t++) {
            if (kind == 0) {
                y[t] = x[t];
            } else if (kind == 1) {
                y[t] = at(x[t], p);
            } else if (kind == 2) {
                m += at(x[t] - m, p);
                y[t] = m;
            } else if (kind == 3) {
                y[t] = x[t] + (t < p ? 0 : at(y[t - p], q));
            } else if (kind == 4) {
                y[t] = limited(x, t, p, q);
            } else if (kind == 5) {
                y[t] = isOpen(x, t, p, q) ? x[t] : 0;
            } else {
                y[t] = x[t] < -p ? -p : x[t] > p ? p : x[t];
            }
            y[t] = cut(y[t]);
        }
        return y;
    }

    private static long limited(long[] x, int t, int p, int q) {
        long most = 0;
        for (int i = Math.max(0, t - q); i <= t; i++) {
            most = Math.max(most, Math.abs(x[i]));
        }
        long z = t < q ? 0 : x[t - q];
        return most <= p ? z : z < 0 ? -(-z * p / most) : z * p / most;
    }

    /** Open if one of the last q + 1 samples was loud enough. */
    private static boolean isOpen(long[] x, int t, int p, int q) {
        for (int i = Math.max(0, t - q); i <= t; i++) {
            if (Math.abs(x[i]) >= p) {
                return true;
            }
        }
        return false;
    }
}
