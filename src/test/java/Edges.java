/** Numbers at and beyond the edges of a range. */
final class Edges {
    static final int MIN = Integer.MIN_VALUE;
    static final int MAX = Integer.MAX_VALUE;

    private Edges() {
    }

    /** The first that are not in low .. high, on both sides, and the least and the greatest int. */
    static int[] outside(int low, int high) {
        return new int[] {low - 1, high + 1, MIN, MAX};
    }

    /** Numbers that no clip of Busy.desk() has: below, beyond, dropped and never given. */
    static int[] noClips() {
        return new int[] {-1, 16, MIN, MAX, 3, 8, 15};
    }
}
