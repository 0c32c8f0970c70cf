public final class Promise05ClipTest {
    private static final int MAX = Integer.MAX_VALUE;

    public static void main(String[] args) {
        placesAndNumbers();
        overlaps();
        sixteen();
        wrongArguments();
        wrongTakes();
        Check.end();
    }

    private static void placesAndNumbers() {
        StripMixer x = new StripMixer();
        Setup.seal(x, 0, 1, 2, 3, 4, 5);
        Check.same("clip(0, 2, 0, 1, 3)", x.clip(0, 2, 0, 1, 3), 0);
        Check.same("clip(3, 1023, 0, 4, 1)", x.clip(3, 1023, 0, 4, 1), 1);
        Check.same("clip(1, 0, 0, 0, 5)", x.clip(1, 0, 0, 0, 5), 2);
        Setup.renders("from 1 at 2", x, 0, 0, 0, 0, 2, 3, 4, 0, 0);
        Setup.shows("other track", x, 1, 1, 2, 3, 4, 5, 0, 0);
        Setup.renders("at the end of time", x, 3, 1021, 0, 0, 5);
        x.drop(0);
        x.drop(1);
        Check.same("the least free number", x.clip(0, 0, 0, 0, 1), 0);
        Check.same("the next free number", x.clip(0, 1, 0, 0, 1), 1);
        Check.same("behind the last number", x.clip(0, 2, 0, 0, 1), 3);
        Setup.seal(x, 7, 70, 71);
        Check.same("of take 7", x.clip(2, 0, 7, 1, 1), 4);
        Setup.renders("of take 7", x, 2, 0, 71, 0);
    }

    private static void overlaps() {
        StripMixer x = new StripMixer();
        Setup.seal(x, 0, 1, 2, 3, 4, 5, 6, 7, 8);
        x.clip(0, 100, 0, 0, 4);
        Check.same("same place", x.clip(0, 100, 0, 0, 4), -1);
        Check.same("over its first", x.clip(0, 97, 0, 0, 4), -1);
        Check.same("over its last", x.clip(0, 103, 0, 0, 4), -1);
        Check.same("inside", x.clip(0, 101, 0, 0, 2), -1);
        Check.same("all round", x.clip(0, 99, 0, 0, 6), -1);
        Check.same("just before", x.clip(0, 96, 0, 0, 4), 1);
        Check.same("just behind", x.clip(0, 104, 0, 0, 4), 2);
        Check.same("other track", x.clip(1, 100, 0, 0, 4), 3);
        Setup.renders("NONE changes nothing", x, 0, 95, 0, 1, 2, 3, 4, 1, 2, 3, 4, 1, 2, 3, 4, 0);
    }

    private static void sixteen() {
        StripMixer x = new StripMixer();
        Setup.seal(x, 0, 7);
        for (int c = 0; c < 16; c++) {
            Check.same("clip " + c, x.clip(c % 4, c, 0, 0, 1), c);
        }
        Check.same("the 17th clip", x.clip(0, 500, 0, 0, 1), -1);
        Check.argument("the 17th clip, wrong", () -> x.clip(4, 500, 0, 0, 1));
        Check.state("the 17th clip, of an open take", () -> x.clip(0, 500, 1, 0, 1));
        x.drop(9);
        Check.same("in place of 9", x.clip(0, 500, 0, 0, 1), 9);
        x.drop(15);
        Check.same("in place of 15", x.clip(0, 15, 0, 0, 1), 15);
    }

    private static void wrongArguments() {
        StripMixer x = new StripMixer();
        Setup.sealFlat(x, 0, 1);
        for (int bad : new int[] {-1, 4, Integer.MIN_VALUE, MAX}) {
            Check.argument("track " + bad, () -> x.clip(bad, 0, 0, 0, 1));
        }
        for (int bad : new int[] {-1, 1024, Integer.MIN_VALUE, MAX}) {
            Check.argument("at " + bad, () -> x.clip(0, bad, 0, 0, 1));
        }
        for (int bad : new int[] {-1, 8, Integer.MIN_VALUE, MAX}) {
            Check.argument("take " + bad, () -> x.clip(0, 0, bad, 0, 1));
        }
        for (int bad : new int[] {-1, Integer.MIN_VALUE}) {
            Check.argument("from " + bad, () -> x.clip(0, 0, 0, bad, 1));
        }
        for (int bad : new int[] {0, -1, Integer.MIN_VALUE, MAX, 1025}) {
            Check.argument("length " + bad, () -> x.clip(0, 0, 0, 0, bad));
        }
        Check.argument("behind time 1024", () -> x.clip(0, 1021, 0, 0, 4));
        Check.argument("behind time 1024, and the take is open", () -> x.clip(0, 1021, 1, 0, 4));
        Check.argument("length MAX, at 1", () -> x.clip(0, 1, 0, 0, MAX));
        Check.same("up to time 1024", x.clip(0, 1020, 0, 0, 4), 0);
        Check.argument("over another one, and wrong", () -> x.clip(0, 1020, 0, -1, 4));
    }

    private static void wrongTakes() {
        StripMixer x = new StripMixer();
        Setup.seal(x, 0, 1, 2, 3, 4, 5);
        Check.state("open", () -> x.clip(0, 0, 1, 0, 1));
        Check.state("too short", () -> x.clip(0, 0, 0, 0, 6));
        Check.state("too short from 4", () -> x.clip(0, 0, 0, 4, 2));
        Check.state("longer than takes are", () -> x.clip(0, 0, 0, 0, 1024));
        Check.state("from MAX", () -> x.clip(0, 0, 0, MAX, 1));
        Check.state("from MAX, long", () -> x.clip(0, 0, 0, MAX, 1024));
        Check.same("just long enough", x.clip(0, 0, 0, 3, 2), 0);
        Check.state("over another one, too short", () -> x.clip(0, 0, 0, 4, 2));
    }
}
