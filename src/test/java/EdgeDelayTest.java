/** Paths of different delay: none, the least and the greatest difference, and what has not yet begun. */
public final class EdgeDelayTest {
    public static void main(String[] args) {
        laterByTheDifference();
        greatestDifference();
        withoutAnyFeed();
        whatIsNotHeardKeepsItsDelay();
        sendsOfLevel0And1();
        both();
        onlyTheFeedersCount();
        behindTheEndOfTime();
        Check.end();
    }

    /** A track's delay, in the given slots, each with its q. */
    private static void delay(StripMixer x, int strip, int... q) {
        for (int slot = 0; slot < q.length; slot++) {
            x.effect(strip, slot, 4, 100000, q[slot]);
        }
    }

    /** "those of a strip with less delay come later by the difference (0 before they begin)" */
    private static void laterByTheDifference() {
        for (int q = 0; q <= 16; q++) {
            StripMixer x = Setup.tracks(3, 5, -6, 7);
            delay(x, 0, q);
            int[] due = new int[q + 4];
            due[q] = 10;
            due[q + 1] = -12;
            due[q + 2] = 14;
            Setup.renders("into the master, " + q, x, 7, 0, due);
            Setup.renders("from where they begin, " + q, x, 7, q, 10, -12, 14, 0);
            x.route(0, 5);
            x.route(1, 5);
            Setup.renders("into a bus, " + q, x, 5, 0, due);
            Ask.due(x, q, "meter", 5, 3);
            x.drop(0);
            Setup.renders("alone, " + q, x, 5, q, 5, -6, 7, 0);
            Setup.shows("in its own time", x, 1, q == 0 ? 5 : q == 1 ? -6 : q == 2 ? 7 : 0);
        }
        StripMixer x = Setup.tracks(7, 5, -6, 7);
        delay(x, 0, 2);
        delay(x, 1, 3);
        Setup.renders("three delays", x, 7, 0, 0, 0, 0, 15, -18, 21, 0);
        delay(x, 2, 3);
        Setup.renders("two as great", x, 7, 0, 0, 0, 0, 15, -18, 21, 0);
    }

    /** "come later by the difference": a way over three buses with 48 each, and one straight into the last of them */
    private static void greatestDifference() {
        StripMixer x = Setup.tracks(3, 5, -6, 7);
        x.route(0, 6);
        x.route(6, 4);
        x.route(4, 5);
        for (int strip : new int[] {0, 6, 4, 5, 7}) {
            delay(x, strip, 16, 16, 16);
        }
        Setup.renders("240 later", x, 7, 239, 0, 10, -12, 14, 0);
        Ask.due(x, 240, "meter", 7, 3);
        Setup.renders("nothing before", x, 7, 0, new int[64]);
        x.route(1, 5);
        Setup.renders("into the last bus", x, 7, 239, 0, 10, -12, 14, 0);
        Setup.renders("out of the last bus", x, 5, 191, 0, 10, -12, 14, 0);
    }

    /** "(0 without any)" */
    private static void withoutAnyFeed() {
        StripMixer x = Setup.tracks(1, 5);
        for (int bus = 4; bus < 7; bus++) {
            Ask.due(x, 0, "meter", bus, 3);
            Setup.renders("nothing comes in", x, bus, 0, 0, 0);
        }
        delay(x, 5, 7);
        Ask.due(x, 7, "meter", 5, 3);
        Setup.renders("a bus without a feed has its delay", x, 7, 6, 0, 5, 0);
        for (int strip = 0; strip < 7; strip++) {
            x.route(strip, strip < 4 ? 4 : 7);
        }
        Ask.due(x, 7, "meter", 7, 3);
    }

    /** "What goes out of a strip that is not heard is 0. (Its effects go on.)" */
    private static void whatIsNotHeardKeepsItsDelay() {
        StripMixer x = Setup.tracks(3, 5, -6, 7);
        delay(x, 0, 4);
        x.turn(0, 1);
        Setup.renders("muted", x, 7, 3, 0, 5, -6, 7, 0);
        x.turn(0, 2);
        x.turn(1, 3);
        Setup.renders("another one is solo", x, 7, 3, 0, 5, -6, 7, 0);
        Ask.due(x, 4, "meter", 0, 3);
    }

    /** "the buses to which it sends with a level above 0" */
    private static void sendsOfLevel0And1() {
        StripMixer x = Setup.tracks(3, 5, -6, 7);
        delay(x, 0, 4);
        x.route(1, 6);
        x.send(0, 6, 1);
        Setup.renders("level 1", x, 6, 3, 0, 5, -7, 7, 0);
        x.send(0, 6, 0);
        Setup.renders("level 0", x, 6, 0, 5, -6, 7, 0);
    }

    /** "(of one that does both, both)" */
    private static void both() {
        StripMixer x = Setup.tracks(1, 5, -6, 7);
        x.route(0, 4);
        x.send(0, 4, 256);
        Setup.renders("twice", x, 4, 0, 10, -12, 14, 0);
        x.send(0, 4, 1);
        Setup.renders("and a 256th", x, 4, 0, 5, -7, 7, 0);
        delay(x, 0, 3);
        Setup.renders("delayed", x, 4, 2, 0, 5, -7, 7, 0);
        Ask.due(x, 3, "meter", 4, 3);
    }

    /** "the greatest delay of the strips that feed it": and of no others */
    private static void onlyTheFeedersCount() {
        StripMixer x = Setup.tracks(3, 5, -6, 7);
        x.route(1, 4);
        delay(x, 0, 4);
        delay(x, 7, 5);
        delay(x, 6, 6);
        Setup.renders("bus 4 waits for nobody", x, 4, 0, 5, -6, 7, 0);
        Ask.due(x, 0, "meter", 4, 3);
        Ask.due(x, 11, "meter", 7, 3);
        Setup.renders("the master waits for a silent bus", x, 7, 10, 0, 10, -12, 14, 0);
    }

    /** "come later by the difference": what would come behind the end of time is lost */
    private static void behindTheEndOfTime() {
        StripMixer x = Setup.tracks(3, 5, -6, 7);
        delay(x, 0, 2);
        x.move(0, 0, 1021);
        x.move(1, 1, 1021);
        Setup.renders("the rest is lost", x, 7, 1021, 0, 0, 10);
        delay(x, 0, 3);
        Setup.renders("all is lost", x, 7, 960, new int[64]);
    }
}
