/** The boundary cases that promise 11 names. */
public final class Edge11SendTest {
    public static void main(String[] args) {
        levels();
        level0FeedsNothing();
        itself();
        ringOfTwo();
        ringOfThree();
        strip();
        bus();
        noLevel();
        Check.end();
    }

    /** "A LEVEL is 0 .. 1024", "x at a level is ... rounded down" */
    private static void levels() {
        for (int track : new int[] {0, 3}) {
            for (int bus : new int[] {4, 6}) {
                StripMixer x = Setup.tracks(1 << track, 257, -257, 1, -1);
                Ask.due(x, 1, "send", track, bus, 1);
                Setup.renders("level 1", x, bus, 0, 1, -2, 0, -1, 0);
                Ask.due(x, 1, "send", track, bus, 255);
                Setup.renders("level 255", x, bus, 0, 255, -256, 0, -1, 0);
                Ask.due(x, 1, "send", track, bus, 256);
                Setup.renders("level 256", x, bus, 0, 257, -257, 1, -1, 0);
                Ask.due(x, 1, "send", track, bus, 1024);
                Setup.renders("level 1024", x, bus, 0, 1028, -1028, 4, -4, 0);
                Ask.due(x, 1, "send", track, bus, 0);
                Setup.renders("level 0", x, bus, 0, 0, 0, 0, 0, 0);
                Setup.shows("the route stays", x, 7, 257, -257, 1, -1, 0);
            }
        }
        StripMixer x = Setup.tracks(1, 8);
        x.route(0, 6);
        Ask.due(x, 1, "send", 6, 4, 512);
        Setup.renders("the last strip sends", x, 4, 0, 16, 0);
    }

    /** "the buses to which it sends with a level above 0": a send with level 0 is no way at all. */
    private static void level0FeedsNothing() {
        StripMixer x = new StripMixer();
        for (int bus = 4; bus < 7; bus++) {
            Ask.due(x, 1, "send", bus, bus, 0);
        }
        Ask.due(x, 1, "route", 4, 5);
        Ask.due(x, 1, "send", 5, 4, 0);
        Ask.due(x, 1, "send", 4, 6, 1);
        Ask.due(x, 1, "send", 6, 4, 0);
        x.effect(0, 0, 4, 1, 16);
        Ask.due(x, 1, "send", 0, 5, 1);
        Ask.due(x, 16, "meter", 5, 3);
        Ask.due(x, 1, "send", 0, 5, 0);
        Ask.due(x, 0, "meter", 5, 3);
        x.turn(5, 3);
        Ask.due(x, 0, "meter", 0, 4);
        Ask.due(x, 1, "send", 0, 5, 1);
        Ask.due(x, 1, "meter", 0, 4);
    }

    /** "false when it would reach itself then": at once */
    private static void itself() {
        for (int bus = 4; bus < 7; bus++) {
            for (int level : new int[] {1, 1024}) {
                Refused.NEW.no("send", bus, bus, level);
                Refused.BUSY.no("send", bus, bus, level);
            }
        }
    }

    /** "false when it would reach itself then": over one other bus */
    private static void ringOfTwo() {
        for (int level : new int[] {1, 256, 1024}) {
            Refused.BUSY.no("send", 5, 4, level);
            Refused.BUSY.no("send", 5, 6, level);
        }
        for (int a = 4; a < 7; a++) {
            for (int b = 4; b < 7; b++) {
                if (a != b) {
                    int from = a;
                    int to = b;
                    new Refused(a + " sends to " + b, () -> sends(1, from, to)).no("send", b, a, 1);
                    StripMixer x = sends(1, from, to);
                    Ask.due(x, 1, "send", a, b, 0);
                    Ask.due(x, 1, "send", b, a, 1);
                }
            }
        }
    }

    /** "false when it would reach itself then": over two other buses */
    private static void ringOfThree() {
        int[][] rows = {{4, 5, 6}, {4, 6, 5}, {5, 4, 6}, {5, 6, 4}, {6, 4, 5}, {6, 5, 4}};
        for (int[] row : rows) {
            Refused on = new Refused("over three", () -> sends(1024, row));
            on.no("send", row[2], row[0], 1);
            on.no("send", row[2], row[1], 1024);
            on.no("route", row[2], row[0]);
            StripMixer x = sends(1, row);
            Ask.due(x, 1, "send", row[0], row[2], 1);
            Ask.due(x, 1, "send", row[0], row[1], 0);
            Ask.due(x, 0, "send", row[2], row[0], 1);
            Ask.due(x, 1, "send", row[0], row[2], 0);
            Ask.due(x, 1, "send", row[2], row[0], 1);
        }
    }

    /** A busy desk on which each of these buses sends to the next one. */
    private static StripMixer sends(int level, int... buses) {
        StripMixer x = Busy.desk();
        x.send(6, 5, 0);
        x.route(4, 7);
        for (int i = 0; i + 1 < buses.length; i++) {
            x.send(buses[i], buses[i + 1], level);
        }
        return x;
    }

    /** "IllegalArgumentException: strip is not 0 .. 6" */
    private static void strip() {
        for (int strip : Edges.outside(0, 6)) {
            Refused.NEW.argument("send", strip, 4, 1);
            Refused.BUSY.argument("send", strip, 4, 0);
            Refused.BUSY.argument("send", strip, 6, 1024);
        }
        Refused.BUSY.argument("send", 8, 4, 1);
    }

    /** "bus not 4 .. 6" */
    private static void bus() {
        for (int bus : Edges.outside(4, 6)) {
            for (int strip : new int[] {0, 3, 6}) {
                Refused.NEW.argument("send", strip, bus, 1);
                Refused.BUSY.argument("send", strip, bus, 0);
                Refused.BUSY.argument("send", strip, bus, 1024);
            }
        }
        Refused.BUSY.argument("send", 1, 0, 1);
        Refused.BUSY.argument("send", 0, 8, 1);
    }

    /** "or level no level", also where it would be refused as a ring */
    private static void noLevel() {
        for (int level : Edges.outside(0, 1024)) {
            Refused.NEW.argument("send", 0, 4, level);
            Refused.BUSY.argument("send", 0, 6, level);
            Refused.BUSY.argument("send", 5, 4, level);
            Refused.BUSY.argument("send", 4, 4, level);
        }
    }
}
