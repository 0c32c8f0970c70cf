/** The boundary cases that promise 15 names; who is heard is in EdgeHeardTest. */
public final class Edge15TurnTest {
    public static void main(String[] args) {
        points();
        otherwiseBefore();
        strip();
        what();
        Check.end();
    }

    /** "its points go away (what = 0, how many there were is the answer)": none, one, eight */
    private static void points() {
        for (int strip : new int[] {0, 7}) {
            StripMixer x = new StripMixer();
            for (int count = 0; count <= 8; count++) {
                for (int i = 0; i < count; i++) {
                    x.point(strip, 100 * i, 256, false);
                }
                Ask.due(x, count, "turn", strip, 0);
                Ask.due(x, 0, "turn", strip, 0);
            }
        }
        StripMixer x = Busy.desk();
        Ask.due(x, 2, "turn", 0, 0);
        Ask.due(x, 0, "turn", 1, 0);
        Ask.due(x, 1, "turn", 5, 0);
        Ask.due(x, 8, "turn", 7, 0);
    }

    /** "1 if it was otherwise before, else 0" */
    private static void otherwiseBefore() {
        for (int strip : new int[] {0, 7}) {
            StripMixer x = new StripMixer();
            int[][] due = {{2, 0}, {4, 0}, {1, 1}, {1, 0}, {4, 0}, {3, 1}, {3, 0}, {1, 0}, {2, 1}, {2, 0}, {3, 0},
                {4, 1}, {4, 0}, {2, 0}, {0, 0}, {3, 1}, {2, 0}, {4, 1}, {1, 1}, {0, 0}, {1, 0}};
            for (int[] pair : due) {
                Ask.due(x, pair[1], "turn", strip, pair[0]);
            }
            for (int other = 1; other < 7; other++) {
                Ask.due(x, 0, "turn", other, 2);
                Ask.due(x, 0, "turn", other, 4);
            }
        }
    }

    /** "IllegalArgumentException: strip is not 0 .. 7" */
    private static void strip() {
        for (int strip : Edges.outside(0, 7)) {
            for (int what = 0; what <= 4; what++) {
                Refused.NEW.argument("turn", strip, what);
                Refused.BUSY.argument("turn", strip, what);
            }
        }
    }

    /** "or what not 0 .. 4" */
    private static void what() {
        for (int what : Edges.outside(0, 4)) {
            for (int strip = 0; strip < 8; strip++) {
                Refused.NEW.argument("turn", strip, what);
                Refused.BUSY.argument("turn", strip, what);
            }
        }
    }
}
