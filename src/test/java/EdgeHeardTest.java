/**
 * "A strip is HEARD if it is not MUTED, and no strip is SOLO, or it is, or it reaches one that is, or one that is
 * reaches it."
 */
public final class EdgeHeardTest {
    public static void main(String[] args) {
        noneSolo();
        itIsSolo();
        itReachesOne();
        oneReachesIt();
        overASend();
        mutedAndSolo();
        allMutedAllSolo();
        Check.end();
    }

    /** Tracks 0 and 1 go over bus 4 to bus 5, track 2 over bus 6, track 3 straight; each has the sample 1 at time 0. */
    private static StripMixer desk() {
        StripMixer x = Setup.tracks(15, 1);
        x.route(0, 4);
        x.route(1, 4);
        x.route(4, 5);
        x.route(2, 6);
        return x;
    }

    /** Who is heard, strip by strip, and what goes out of the master at time 0. */
    private static void heard(String what, StripMixer x, String due, int master) {
        StringBuilder got = new StringBuilder();
        for (int strip = 0; strip < 8; strip++) {
            got.append(x.meter(strip, 4));
        }
        Check.same(what, got.toString(), due);
        x.render(0, 1);
        for (int strip = 0; strip < 8; strip++) {
            if (due.charAt(strip) == '0') {
                Check.same(what + ": silent " + strip, x.sample(strip, 0), 0);
            }
        }
        Check.same(what + ": sample(7, 0)", x.sample(7, 0), master);
    }

    /** "if it is not MUTED, and no strip is SOLO" */
    private static void noneSolo() {
        heard("none", desk(), "11111111", 4);
        int[] masters = {3, 3, 3, 3, 2, 2, 3, 0};
        for (int strip = 0; strip < 8; strip++) {
            StripMixer x = desk();
            x.turn(strip, 1);
            StringBuilder due = new StringBuilder("11111111");
            due.setCharAt(strip, '0');
            heard("only " + strip + " is muted", x, due.toString(), masters[strip]);
        }
    }

    /** "or it is" */
    private static void itIsSolo() {
        String[] due = {"10001101", "01001101", "00100011", "00010001", "11001101", "11001101", "00100011", "11111111"};
        int[] masters = {1, 1, 1, 1, 2, 2, 1, 4};
        for (int strip = 0; strip < 8; strip++) {
            StripMixer x = desk();
            x.turn(strip, 3);
            heard(strip + " is solo", x, due[strip], masters[strip]);
            x.turn(strip, 4);
            heard(strip + " was solo", x, "11111111", 4);
        }
        StripMixer x = desk();
        x.turn(0, 3);
        x.turn(3, 3);
        heard("0 and 3 are solo", x, "10011101", 2);
        x.turn(6, 3);
        heard("and 6", x, "10111111", 3);
        x.turn(7, 3);
        heard("and 7", x, "11111111", 4);
    }

    /** "or it reaches one that is": at once, over one, over two */
    private static void itReachesOne() {
        StripMixer x = desk();
        x.route(5, 6);
        x.turn(6, 3);
        heard("all but 3 reach 6", x, "11101111", 3);
        int[][] rows = {{4, 5, 6}, {4, 6, 5}, {5, 4, 6}, {5, 6, 4}, {6, 4, 5}, {6, 5, 4}};
        for (int[] row : rows) {
            StripMixer y = Setup.tracks(1, 1);
            y.route(0, row[0]);
            y.route(row[0], row[1]);
            y.route(row[1], row[2]);
            for (int far : new int[] {row[0], row[1], row[2], 7}) {
                y.turn(far, 3);
                Ask.due(y, 1, "meter", 0, 4);
                Ask.due(y, 1, "meter", row[0], 4);
                Ask.due(y, far == 7 ? 1 : 0, "meter", 1, 4);
                y.turn(far, 4);
            }
            y.turn(0, 3);
            for (int far : new int[] {row[0], row[1], row[2], 7}) {
                Ask.due(y, 1, "meter", far, 4);
            }
        }
    }

    /** "or one that is reaches it" */
    private static void oneReachesIt() {
        StripMixer x = desk();
        x.route(5, 6);
        x.turn(0, 3);
        heard("0 reaches 4, 5, 6 and 7", x, "10001111", 1);
        x.route(4, 7);
        heard("0 reaches 4 and 7", x, "10001001", 1);
    }

    /** "with a level above 0" */
    private static void overASend() {
        StripMixer x = desk();
        x.turn(6, 3);
        heard("6 is solo", x, "00100011", 1);
        x.send(3, 6, 1);
        heard("3 sends to 6", x, "00110011", 2);
        x.send(5, 6, 1024);
        heard("5 sends to 6", x, "11111111", 12);
        x.send(5, 6, 0);
        x.send(3, 6, 0);
        heard("nobody sends any more", x, "00100011", 1);
    }

    /** "if it is not MUTED": also when it is solo */
    private static void mutedAndSolo() {
        StripMixer x = desk();
        x.turn(0, 1);
        x.turn(0, 3);
        heard("0 is muted and solo", x, "00001101", 0);
        x.turn(3, 3);
        heard("3 is solo too", x, "00011101", 1);
        x.turn(3, 1);
        heard("and muted", x, "00001101", 0);
        x.turn(0, 2);
        heard("0 is not muted any more", x, "10001101", 1);
        x.turn(4, 1);
        heard("the bus between is muted", x, "10000101", 0);
    }

    /** All at once. */
    private static void allMutedAllSolo() {
        StripMixer x = desk();
        for (int strip = 0; strip < 8; strip++) {
            x.turn(strip, 3);
        }
        heard("all are solo", x, "11111111", 4);
        for (int strip = 0; strip < 8; strip++) {
            x.turn(strip, 1);
        }
        heard("all are muted too", x, "00000000", 0);
        for (int strip = 0; strip < 8; strip++) {
            x.turn(strip, 4);
        }
        heard("all are muted", x, "00000000", 0);
    }
}
