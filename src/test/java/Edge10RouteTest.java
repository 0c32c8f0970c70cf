/** The boundary cases that promise 10 names. */
public final class Edge10RouteTest {
    public static void main(String[] args) {
        firstAndLastOfEach();
        itself();
        ringOfTwo();
        ringOfThree();
        ringOverASend();
        noRingAnyMore();
        strip();
        target();
        Check.end();
    }

    /** "A strip is routed: true": the first and the last of each */
    private static void firstAndLastOfEach() {
        for (int track : new int[] {0, 3}) {
            for (int bus : new int[] {4, 6}) {
                StripMixer x = Setup.tracks(1 << track, 5, -6);
                x.fader(bus, 512);
                Ask.due(x, 1, "route", track, bus);
                Setup.renders("over the bus", x, 7, 0, 10, -12, 0);
                Ask.due(x, 1, "route", track, bus);
                Ask.due(x, 1, "route", track, 7);
                Setup.renders("to the master", x, 7, 0, 5, -6, 0);
                Ask.due(x, 1, "route", track, 7);
            }
        }
        StripMixer x = Setup.tracks(1, 5, -6);
        Ask.due(x, 1, "route", 0, 6);
        Ask.due(x, 1, "route", 6, 4);
        x.fader(4, 512);
        Setup.renders("over 6 and 4", x, 7, 0, 10, -12, 0);
        Ask.due(x, 1, "route", 6, 7);
        Setup.renders("over 6", x, 7, 0, 5, -6, 0);
    }

    /** "false when it would reach itself then": at once */
    private static void itself() {
        for (int bus = 4; bus < 7; bus++) {
            Refused.NEW.no("route", bus, bus);
            Refused.BUSY.no("route", bus, bus);
        }
    }

    /** "false when it would reach itself then": over one other bus */
    private static void ringOfTwo() {
        Refused.BUSY.no("route", 5, 4);
        for (int a = 4; a < 7; a++) {
            for (int b = 4; b < 7; b++) {
                if (a != b) {
                    int from = a;
                    int to = b;
                    new Refused(a + " is routed to " + b, () -> ways(from, to)).no("route", b, a);
                }
            }
        }
    }

    /** "false when it would reach itself then": over two other buses */
    private static void ringOfThree() {
        int[][] rows = {{4, 5, 6}, {4, 6, 5}, {5, 4, 6}, {5, 6, 4}, {6, 4, 5}, {6, 5, 4}};
        for (int[] row : rows) {
            Refused on = new Refused("over three", () -> ways(row));
            on.no("route", row[2], row[0]);
            on.no("route", row[2], row[1]);
            on.no("route", row[1], row[0]);
            Ask.due(ways(row), 1, "route", row[0], row[2]);
        }
    }

    /** A busy desk on which each of these buses is routed to the next one. */
    private static StripMixer ways(int... buses) {
        StripMixer x = Busy.desk();
        x.send(6, 5, 0);
        x.route(4, 7);
        for (int i = 0; i + 1 < buses.length; i++) {
            x.route(buses[i], buses[i + 1]);
        }
        return x;
    }

    /** "the buses to which it sends with a level above 0" */
    private static void ringOverASend() {
        Refused.BUSY.no("route", 5, 6);
        for (int level : new int[] {1, 1024}) {
            new Refused("6 sends to 4", () -> {
                StripMixer x = new StripMixer();
                x.send(6, 4, level);
                return x;
            }).no("route", 4, 6);
        }
        StripMixer x = new StripMixer();
        x.send(6, 4, 1);
        x.send(6, 4, 0);
        Ask.due(x, 1, "route", 4, 6);
    }

    /** "then": the old route does not count any more. */
    private static void noRingAnyMore() {
        StripMixer x = Busy.desk();
        Ask.due(x, 0, "route", 5, 4);
        Ask.due(x, 1, "route", 4, 7);
        Ask.due(x, 1, "route", 5, 4);
        Ask.due(x, 0, "route", 4, 5);
        Ask.due(x, 0, "route", 4, 6);
        Ask.due(x, 1, "send", 6, 5, 0);
        Ask.due(x, 1, "route", 4, 6);
        Ask.due(x, 0, "route", 6, 5);
        Ask.due(x, 1, "route", 5, 7);
        Ask.due(x, 1, "route", 6, 5);
    }

    /** "IllegalArgumentException: strip is not 0 .. 6" */
    private static void strip() {
        for (int strip : Edges.outside(0, 6)) {
            for (int to : new int[] {4, 7}) {
                Refused.NEW.argument("route", strip, to);
                Refused.BUSY.argument("route", strip, to);
            }
        }
        Refused.BUSY.argument("route", 8, 7);
    }

    /** "or to not 4 .. 7" */
    private static void target() {
        for (int to : Edges.outside(4, 7)) {
            for (int strip : new int[] {0, 3, 4, 6}) {
                Refused.NEW.argument("route", strip, to);
                Refused.BUSY.argument("route", strip, to);
            }
        }
        Refused.BUSY.argument("route", 0, 0);
        Refused.BUSY.argument("route", 0, -1);
        Refused.BUSY.argument("route", 7, 8);
    }
}
