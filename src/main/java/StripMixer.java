import java.util.Arrays;
import java.util.NoSuchElementException;

/**
 * A sound desk without sound cards: takes are cut into clips on tracks, which go through effects,
 * faders, sends and buses to one master; any block of it can be rendered, metered and bounced.
 */
public final class StripMixer {
    public static final int NONE = -1;

    private static final int TAKES = 8;
    private static final int TAKE_ROOM = 64;
    private static final int LEAST_IN_TAKE = -32768;
    private static final int MOST_IN_TAKE = 32767;
    private static final int CLIPS = 16;
    private static final int TRACKS = 4;
    private static final int FIRST_BUS = 4;
    private static final int MASTER = 7;
    private static final int STRIPS = 8;
    private static final int SLOTS = 3;
    private static final int POINTS = 8;
    private static final int END_OF_TIME = 1024;
    private static final int BLOCK_ROOM = 64;
    private static final int STEP = 16;
    private static final int TOP_LEVEL = 1024;
    private static final int FULL = 256;
    private static final int FAR = 16777216;

    private final Take[] takes = new Take[TAKES];
    private final Shelf shelf = new Shelf();
    private final Desk desk = new Desk();
    private int blockFrom;
    private int blockLength;

    public StripMixer() {
        for (int t = 0; t < TAKES; t++) {
            takes[t] = new Take();
        }
    }

    public void samples(int t, int i, long four) throws IndexOutOfBoundsException, IllegalStateException {
        if (!within(t, 0, TAKES - 1) || !within(i, 0, TAKE_ROOM - 4)) {
            throw new IndexOutOfBoundsException();
        }
        if (!takes[t].isOpen()) {
            throw new IllegalStateException();
        }
        takes[t].write(i, four);
    }

    public void seal(int t, int length)
            throws IndexOutOfBoundsException, IllegalArgumentException, IllegalStateException {
        if (!within(t, 0, TAKES - 1)) {
            throw new IndexOutOfBoundsException();
        }
        if (!within(length, 1, TAKE_ROOM)) {
            throw new IllegalArgumentException();
        }
        if (!takes[t].isOpen()) {
            throw new IllegalStateException();
        }
        takes[t].length = length;
    }

    public int take(int t, int i) throws IndexOutOfBoundsException {
        if (!within(t, 0, TAKES - 1) || !within(i, -1, takes[t].readable() - 1)) {
            throw new IndexOutOfBoundsException();
        }
        return i == -1 ? takes[t].length : takes[t].row[i];
    }

    public int clip(int track, int at, int t, int from, int length)
            throws IllegalArgumentException, IllegalStateException {
        if (!within(track, 0, TRACKS - 1) || !within(at, 0, END_OF_TIME - 1) || !within(t, 0, TAKES - 1)
                || from < 0 || !within(length, 1, END_OF_TIME - at)) {
            throw new IllegalArgumentException();
        }
        // An open take has the length 0, so it is too short for every clip.
        if (from > takes[t].length - length) {
            throw new IllegalStateException();
        }
        int c = shelf.leastFree();
        if (c == NONE || shelf.overlaps(NONE, track, at, length)) {
            return NONE;
        }
        Clip made = shelf.clips[c];
        made.cutFrom(takes[t], from, length);
        made.layOn(track, at);
        made.form(FULL, 0, 0);
        return c;
    }

    public void drop(int c) throws NoSuchElementException {
        if (!shelf.has(c)) {
            throw new NoSuchElementException();
        }
        shelf.clips[c].length = 0;
    }

    public boolean move(int c, int track, int at) throws NoSuchElementException, IllegalArgumentException {
        if (!shelf.has(c)) {
            throw new NoSuchElementException();
        }
        Clip moved = shelf.clips[c];
        if (!within(track, 0, TRACKS - 1) || !within(at, 0, END_OF_TIME - moved.length)) {
            throw new IllegalArgumentException();
        }
        if (shelf.overlaps(c, track, at, moved.length)) {
            return false;
        }
        moved.layOn(track, at);
        return true;
    }

    public int split(int c, int k) throws NoSuchElementException, IllegalArgumentException {
        if (!shelf.has(c)) {
            throw new NoSuchElementException();
        }
        Clip first = shelf.clips[c];
        if (!within(k, 1, first.length - 1)) {
            throw new IllegalArgumentException();
        }
        int free = shelf.leastFree();
        if (free == NONE || k < first.in || first.length - k < first.out) {
            return NONE;
        }
        first.splitInto(shelf.clips[free], k);
        return free;
    }

    public void shape(int c, int level, int in, int out) throws NoSuchElementException, IllegalArgumentException {
        if (!shelf.has(c)) {
            throw new NoSuchElementException();
        }
        Clip shaped = shelf.clips[c];
        // The length less OUT, and not IN with OUT, as that sum may wrap around.
        if (!isLevel(level) || in < 0 || out < 0 || in > shaped.length - out) {
            throw new IllegalArgumentException();
        }
        shaped.form(level, in, out);
    }

    public boolean route(int strip, int to) throws IllegalArgumentException {
        if (!within(strip, 0, MASTER - 1) || !within(to, FIRST_BUS, MASTER)) {
            throw new IllegalArgumentException();
        }
        if (!desk.mayFeed(strip, to)) {
            return false;
        }
        desk.strips[strip].target = to;
        return true;
    }

    public boolean send(int strip, int bus, int level) throws IllegalArgumentException {
        if (!within(strip, 0, MASTER - 1) || !within(bus, FIRST_BUS, MASTER - 1) || !isLevel(level)) {
            throw new IllegalArgumentException();
        }
        // A send with the level 0 feeds nothing, so it never closes a ring.
        if (level > 0 && !desk.mayFeed(strip, bus)) {
            return false;
        }
        desk.strips[strip].sends[bus] = level;
        return true;
    }

    public void effect(int strip, int slot, int kind, int p, int q) throws IllegalArgumentException {
        if (!isStrip(strip) || !within(slot, 0, SLOTS - 1) || !Effect.allows(kind, p, q)) {
            throw new IllegalArgumentException();
        }
        desk.strips[strip].slots[slot].become(kind, p, q);
    }

    public void fader(int strip, int level) throws IllegalArgumentException {
        if (!isStrip(strip) || !isLevel(level)) {
            throw new IllegalArgumentException();
        }
        desk.strips[strip].fader.rest = level;
    }

    public boolean point(int strip, int time, int level, boolean joined) throws IllegalArgumentException {
        if (!isStrip(strip) || !within(time, 0, END_OF_TIME - 1) || !isLevel(level)) {
            throw new IllegalArgumentException();
        }
        return desk.strips[strip].fader.put(time, level, joined);
    }

    public int turn(int strip, int what) throws IllegalArgumentException {
        if (!isStrip(strip) || !within(what, 0, 4)) {
            throw new IllegalArgumentException();
        }
        Strip turned = desk.strips[strip];
        if (what == 0) {
            return turned.fader.clearPoints();
        }
        boolean on = what == 1 || what == 3;
        boolean changed = what <= 2 ? turned.changeMute(on) : turned.changeSolo(on);
        return changed ? 1 : 0;
    }

    public void render(int from, int n) throws IllegalArgumentException {
        if (!isBlock(from, n)) {
            throw new IllegalArgumentException();
        }
        playBlock(from, n);
    }

    public int sample(int strip, int i) throws IndexOutOfBoundsException {
        if (!isStrip(strip) || !within(i, 0, blockLength - 1)) {
            throw new IndexOutOfBoundsException();
        }
        return desk.strips[strip].row[blockFrom + i];
    }

    public long meter(int strip, int what) throws IllegalArgumentException {
        if (!isStrip(strip) || !within(what, 0, 4)) {
            throw new IllegalArgumentException();
        }
        switch (what) {
            case 0:
                return desk.strips[strip].peak(blockFrom, blockLength);
            case 1:
                return desk.strips[strip].power(blockFrom, blockLength);
            case 2:
                return desk.strips[strip].overs(blockFrom, blockLength);
            case 3:
                desk.settle();
                return desk.strips[strip].delay;
            default:
                return desk.isHeard(strip) ? 1 : 0;
        }
    }

    public int bounce(int strip, int from, int n) throws IllegalArgumentException {
        if (!isStrip(strip) || !isBlock(from, n)) {
            throw new IllegalArgumentException();
        }
        int t = leastOpenTake();
        if (t == NONE) {
            return NONE;
        }
        playBlock(from, n);
        takes[t].record(desk.strips[strip].row, from, n);
        return t;
    }

    private int leastOpenTake() {
        for (int t = 0; t < TAKES; t++) {
            if (takes[t].isOpen()) {
                return t;
            }
        }
        return NONE;
    }

    /** Plays from time 0 on, as the memories of the effects at the block hang on all that came before. */
    private void playBlock(int from, int n) {
        blockFrom = from;
        blockLength = n;
        desk.settle();
        for (int i = 0; i < STRIPS; i++) {
            int s = desk.order[i];
            if (s < TRACKS) {
                shelf.layOut(s, desk.strips[s].row, from + n);
            } else {
                desk.mixInto(s, from + n);
            }
            desk.strips[s].process(from + n, desk.isHeard(s));
        }
    }

    private static boolean isStrip(int strip) {
        return within(strip, 0, STRIPS - 1);
    }

    private static boolean isLevel(int level) {
        return within(level, 0, TOP_LEVEL);
    }

    private static boolean isBlock(int from, int n) {
        return within(n, 1, BLOCK_ROOM) && within(from, 0, END_OF_TIME - n);
    }

    private static boolean within(int x, int least, int most) {
        return x >= least && x <= most;
    }

    /** No x in the desk is beyond 2^25 and no level beyond 2^10, so the quotient is an int again. */
    private static int atLevel(int x, int level) {
        return (int) (((long) x * level) >> 8);
    }

    private static int cut(int x) {
        return Math.max(-FAR, Math.min(FAR, x));
    }

    /** Samples to cut clips from; the length is 0 while it is open. */
    private static final class Take {
        private final int[] row = new int[TAKE_ROOM];
        private int length;

        boolean isOpen() {
            return length == 0;
        }

        int readable() {
            return isOpen() ? TAKE_ROOM : length;
        }

        void write(int i, long four) {
            for (int j = 0; j < 4; j++) {
                row[i + j] = (short) (four >> (16 * j));
            }
        }

        void record(int[] played, int from, int n) {
            for (int i = 0; i < n; i++) {
                row[i] = Math.max(LEAST_IN_TAKE, Math.min(MOST_IN_TAKE, played[from + i]));
            }
            length = n;
        }
    }

    /** A part of a take on a track; with the length 0 its number is free. */
    private static final class Clip {
        private Take take;
        private int track;
        private int at;
        private int from;
        private int length;
        private int level;
        private int in;
        private int out;

        void cutFrom(Take newTake, int newFrom, int newLength) {
            take = newTake;
            from = newFrom;
            length = newLength;
        }

        void layOn(int newTrack, int newAt) {
            track = newTrack;
            at = newAt;
        }

        void form(int newLevel, int newIn, int newOut) {
            level = newLevel;
            in = newIn;
            out = newOut;
        }

        void splitInto(Clip rest, int k) {
            rest.cutFrom(take, from + k, length - k);
            rest.layOn(track, at + k);
            rest.form(level, 0, out);
            length = k;
            out = 0;
        }

        boolean liesIn(int otherTrack, int otherAt, int otherLength) {
            return length > 0 && track == otherTrack && at < otherAt + otherLength && otherAt < at + length;
        }

        int valueAt(int k) {
            int x = atLevel(take.row[from + k], level);
            if (k < in) {
                x = Math.floorDiv(x * (k + 1), in + 1);
            }
            if (length - 1 - k < out) {
                x = Math.floorDiv(x * (length - k), out + 1);
            }
            return x;
        }
    }

    /** All clips, by their numbers. */
    private static final class Shelf {
        private final Clip[] clips = new Clip[CLIPS];

        Shelf() {
            for (int c = 0; c < CLIPS; c++) {
                clips[c] = new Clip();
            }
        }

        boolean has(int c) {
            return within(c, 0, CLIPS - 1) && clips[c].length > 0;
        }

        int leastFree() {
            for (int c = 0; c < CLIPS; c++) {
                if (clips[c].length == 0) {
                    return c;
                }
            }
            return NONE;
        }

        boolean overlaps(int except, int track, int at, int length) {
            for (int c = 0; c < CLIPS; c++) {
                if (c != except && clips[c].liesIn(track, at, length)) {
                    return true;
                }
            }
            return false;
        }

        void layOut(int track, int[] row, int end) {
            Arrays.fill(row, 0, end, 0);
            for (int c = 0; c < CLIPS; c++) {
                Clip clip = clips[c];
                if (clip.liesIn(track, 0, end)) {
                    int played = Math.min(clip.length, end - clip.at);
                    for (int k = 0; k < played; k++) {
                        row[clip.at + k] = clip.valueAt(k);
                    }
                }
            }
        }
    }

    /** What stands in a slot; one object plays every kind, so that changing the kind makes nothing new. */
    private static final class Effect {
        private static final int EMPTY = 0;
        private static final int GAIN = 1;
        private static final int SMOOTH = 2;
        private static final int ECHO = 3;
        private static final int LIMIT = 4;
        private static final int GATE = 5;
        private static final int CLAMP = 6;
        private static final int LONGEST_ECHO = 32;
        private static final int LONGEST_DELAY = 16;
        private static final int LONGEST_HOLD = 64;
        private static final int LOUDEST = 100000;

        /** Goes round: the last p samples that went (ECHO), or the last q + 1 that came (LIMIT). */
        private final int[] past = new int[LONGEST_ECHO];
        private int kind;
        private int p;
        private int q;
        private int place;
        /** m of SMOOTH, n of GATE, M of LIMIT. */
        private int memory;

        static boolean allows(int kind, int p, int q) {
            switch (kind) {
                case EMPTY:
                    return true;
                case GAIN:
                    return isLevel(p);
                case SMOOTH:
                    return within(p, 0, FULL);
                case ECHO:
                    return within(p, 1, LONGEST_ECHO) && within(q, 0, FULL - 1);
                case LIMIT:
                    return within(p, 1, LOUDEST) && within(q, 0, LONGEST_DELAY);
                case GATE:
                    return within(p, 0, LOUDEST) && within(q, 0, LONGEST_HOLD);
                case CLAMP:
                    return within(p, 0, LOUDEST);
                default:
                    return false;
            }
        }

        void become(int newKind, int newP, int newQ) {
            kind = newKind;
            p = newP;
            q = newQ;
        }

        int ownDelay() {
            return kind == LIMIT ? q : 0;
        }

        void forget() {
            Arrays.fill(past, 0);
            place = 0;
            memory = 0;
        }

        int next(int x) {
            switch (kind) {
                case GAIN:
                    return cut(atLevel(x, p));
                case SMOOTH:
                    memory += atLevel(x - memory, p);
                    return cut(memory);
                case ECHO:
                    return echo(x);
                case LIMIT:
                    return limit(x);
                case GATE:
                    return gate(x);
                case CLAMP:
                    return Math.max(-p, Math.min(p, x));
                default:
                    return x;
            }
        }

        private int echo(int x) {
            int y = cut(x + atLevel(past[place], q));
            past[place] = y;
            place = place + 1 < p ? place + 1 : 0;
            return y;
        }

        private int limit(int x) {
            int gone = past[place];
            past[place] = x;
            place = place < q ? place + 1 : 0;
            // The greatest size is looked for anew only when it may be the one that has gone.
            if (Math.abs(x) >= memory) {
                memory = Math.abs(x);
            } else if (Math.abs(gone) == memory) {
                memory = greatestPast();
            }
            int z = past[place];
            return memory <= p ? z : (int) ((long) z * p / memory);
        }

        private int greatestPast() {
            int most = 0;
            for (int i = 0; i <= q; i++) {
                most = Math.max(most, Math.abs(past[i]));
            }
            return most;
        }

        private int gate(int x) {
            if (Math.abs(x) >= p) {
                memory = q + 1;
            }
            if (memory == 0) {
                return 0;
            }
            memory--;
            return x;
        }
    }

    /** The level of a strip in time: its points, in the order of time, or a rest level without any. */
    private static final class Fader {
        private final int[] times = new int[POINTS];
        private final int[] levels = new int[POINTS];
        private final boolean[] joins = new boolean[POINTS];
        private int count;
        private int rest = FULL;

        boolean put(int time, int level, boolean joined) {
            int place = firstNotBefore(time);
            boolean replaces = place < count && times[place] == time;
            if (!replaces && count == POINTS) {
                return false;
            }
            if (!replaces) {
                openGap(place);
            }
            times[place] = time;
            levels[place] = level;
            joins[place] = joined;
            return true;
        }

        int clearPoints() {
            int were = count;
            count = 0;
            return were;
        }

        int levelAt(int time) {
            if (count == 0) {
                return rest;
            }
            int next = firstNotBefore(time + 1);
            if (next == 0) {
                return levels[0];
            }
            int last = next - 1;
            if (!joins[last] || next == count) {
                return levels[last];
            }
            int rise = levels[next] - levels[last];
            return levels[last] + Math.floorDiv(rise * (time - times[last]), times[next] - times[last]);
        }

        private int firstNotBefore(int time) {
            int i = 0;
            while (i < count && times[i] < time) {
                i++;
            }
            return i;
        }

        private void openGap(int place) {
            for (int i = count; i > place; i--) {
                times[i] = times[i - 1];
                levels[i] = levels[i - 1];
                joins[i] = joins[i - 1];
            }
            count++;
        }
    }

    /** A track, a bus or the master. */
    private static final class Strip {
        private final Effect[] slots = new Effect[SLOTS];
        private final Fader fader = new Fader();
        /** The level of the send to each strip; only those to buses are ever above 0. */
        private final int[] sends = new int[STRIPS];
        /** What comes in while it is mixed, then what goes out, by time. */
        private final int[] row = new int[END_OF_TIME];
        private int target;
        private boolean muted;
        private boolean solo;
        private int delayIn;
        private int delay;

        Strip(int firstTarget) {
            target = firstTarget;
            for (int i = 0; i < SLOTS; i++) {
                slots[i] = new Effect();
            }
        }

        boolean feeds(int other) {
            return target == other || sends[other] > 0;
        }

        boolean changeMute(boolean on) {
            boolean changed = muted != on;
            muted = on;
            return changed;
        }

        boolean changeSolo(boolean on) {
            boolean changed = solo != on;
            solo = on;
            return changed;
        }

        void delayFrom(int incoming) {
            delayIn = incoming;
            delay = incoming;
            for (int i = 0; i < SLOTS; i++) {
                delay += slots[i].ownDelay();
            }
        }

        void addTo(int[] sum, int level, int later, int end) {
            for (int t = later; t < end; t++) {
                sum[t] += atLevel(row[t - later], level);
            }
        }

        void process(int end, boolean heard) {
            for (int i = 0; i < SLOTS; i++) {
                slots[i].forget();
            }
            int level = 0;
            for (int t = 0; t < end; t++) {
                if (t % STEP == 0) {
                    level = fader.levelAt(t);
                }
                int x = cut(row[t]);
                for (int i = 0; i < SLOTS; i++) {
                    x = slots[i].next(x);
                }
                row[t] = heard ? cut(atLevel(x, level)) : 0;
            }
        }

        int peak(int from, int n) {
            int most = 0;
            for (int i = 0; i < n; i++) {
                most = Math.max(most, Math.abs(row[from + i]));
            }
            return most;
        }

        long power(int from, int n) {
            long sum = 0;
            for (int i = 0; i < n; i++) {
                sum += (long) row[from + i] * row[from + i];
            }
            return sum;
        }

        int overs(int from, int n) {
            int count = 0;
            for (int i = 0; i < n; i++) {
                if (!within(row[from + i], LEAST_IN_TAKE, MOST_IN_TAKE)) {
                    count++;
                }
            }
            return count;
        }
    }

    /** All strips, and how they feed one another; sets of strips are bits by their numbers. */
    private static final class Desk {
        private final Strip[] strips = new Strip[STRIPS];
        /** All strips, each behind those that feed it; as of the last settle(). */
        private final int[] order = new int[STRIPS];

        Desk() {
            for (int s = 0; s < STRIPS; s++) {
                strips[s] = new Strip(s == MASTER ? NONE : MASTER);
            }
        }

        boolean mayFeed(int strip, int to) {
            return strip != to && !has(reach(to), strip);
        }

        boolean isHeard(int strip) {
            if (strips[strip].muted) {
                return false;
            }
            int solos = solos();
            if (solos == 0 || has(solos, strip) || (reach(strip) & solos) != 0) {
                return true;
            }
            for (int s = 0; s < STRIPS; s++) {
                if (has(solos, s) && has(reach(s), strip)) {
                    return true;
                }
            }
            return false;
        }

        /** Finds the order and the delays that the present routes, sends and effects give. */
        void settle() {
            int placed = 0;
            // A strip reaches all that those it feeds reach, and them too: so it reaches more than each of them.
            for (int reached = MASTER - FIRST_BUS + 1; reached >= 0; reached--) {
                for (int s = 0; s < STRIPS; s++) {
                    if (Integer.bitCount(reach(s)) == reached) {
                        order[placed] = s;
                        placed++;
                    }
                }
            }
            for (int i = 0; i < STRIPS; i++) {
                strips[order[i]].delayFrom(greatestDelayInto(order[i]));
            }
        }

        /** The sum is at most that of 7 strips, each routed and sent with 4 times its 2^24: it stays an int. */
        void mixInto(int strip, int end) {
            int[] sum = strips[strip].row;
            Arrays.fill(sum, 0, end, 0);
            for (int s = 0; s < MASTER; s++) {
                Strip source = strips[s];
                int later = strips[strip].delayIn - source.delay;
                if (source.target == strip) {
                    source.addTo(sum, FULL, later, end);
                }
                if (source.sends[strip] > 0) {
                    source.addTo(sum, source.sends[strip], later, end);
                }
            }
        }

        private int greatestDelayInto(int strip) {
            int most = 0;
            for (int s = 0; s < MASTER; s++) {
                if (strips[s].feeds(strip)) {
                    most = Math.max(most, strips[s].delay);
                }
            }
            return most;
        }

        private int reach(int strip) {
            int reached = fedBy(strip);
            // Each round goes one strip further, and no way leads over more than the three buses.
            for (int round = FIRST_BUS; round < MASTER; round++) {
                for (int bus = FIRST_BUS; bus < MASTER; bus++) {
                    if (has(reached, bus)) {
                        reached |= fedBy(bus);
                    }
                }
            }
            return reached;
        }

        private int fedBy(int strip) {
            int fed = 0;
            for (int s = FIRST_BUS; s < STRIPS; s++) {
                if (strips[strip].feeds(s)) {
                    fed |= 1 << s;
                }
            }
            return fed;
        }

        private int solos() {
            int set = 0;
            for (int s = 0; s < STRIPS; s++) {
                if (strips[s].solo) {
                    set |= 1 << s;
                }
            }
            return set;
        }

        private static boolean has(int set, int strip) {
            return (set >> strip & 1) == 1;
        }
    }
}
