/** The boundary cases that promise 14 names, and those of a fader's points. */
public final class Edge14PointTest {
    public static void main(String[] args) {
        withoutPoints();
        beforeTheFirst();
        atAndBehindAStepsFirstTime();
        lastStep();
        joinedWithoutANext();
        joined();
        notJoined();
        neighbours();
        levels();
        sameTime();
        eightOthers();
        strip();
        time();
        noLevel();
        Check.end();
    }

    /** 128 samples 256 on track 0: what goes out of it is the fader's level. */
    private static StripMixer flat() {
        return Setup.flat(256, 2);
    }

    /** The levels of the first steps, looked at in their first and last sample. */
    private static void steps(String what, StripMixer x, int... due) {
        for (int step = 0; step < due.length; step++) {
            x.render(16 * step, 16);
            Check.same(what + ": step " + step + ", first", x.sample(0, 0), due[step]);
            Check.same(what + ": step " + step + ", last", x.sample(0, 15), due[step]);
        }
    }

    /** "without points the fader" */
    private static void withoutPoints() {
        StripMixer x = flat();
        x.fader(0, 77);
        steps("none", x, 77, 77, 77);
        Ask.due(x, 1, "point", 0, 1023, 5, 0);
        steps("one, far behind", x, 5, 5, 5);
        Ask.due(x, 1, "turn", 0, 0);
        steps("none again", x, 77, 77, 77);
    }

    /** "before the first point that one's level" */
    private static void beforeTheFirst() {
        StripMixer x = flat();
        x.point(0, 33, 100, false);
        x.point(0, 50, 200, false);
        steps("before 33", x, 100, 100, 100, 100, 200);
        x.turn(0, 0);
        x.point(0, 33, 100, true);
        x.point(0, 50, 270, false);
        steps("before 33, joined", x, 100, 100, 100, 250, 270);
        x.point(0, 0, 7, false);
        steps("from 0 on", x, 7, 7, 7, 250, 270);
    }

    /** "the last point whose time is not after s", with s the step's first time */
    private static void atAndBehindAStepsFirstTime() {
        for (int time : new int[] {15, 16, 17, 31, 32}) {
            StripMixer x = flat();
            x.point(0, 0, 10, false);
            x.point(0, time, 20, false);
            steps("a point at " + time, x, 10, time <= 16 ? 20 : 10, 20);
        }
        StripMixer x = flat();
        x.point(0, 0, 10, false);
        x.point(0, 14, 20, false);
        x.point(0, 15, 30, false);
        x.point(0, 16, 40, false);
        x.point(0, 17, 50, false);
        steps("the last of some", x, 10, 40, 50);
        x.render(15, 2);
        Setup.shows("both sides of a step's edge", x, 0, 10, 40);
    }

    /** "TIME is counted in samples, 0 .. 1023": the last step and the last time */
    private static void lastStep() {
        StripMixer x = new StripMixer();
        Setup.sealFlat(x, 0, 256);
        x.clip(0, 960, 0, 0, 64);
        x.point(0, 0, 10, false);
        x.point(0, 1008, 20, false);
        x.point(0, 1009, 30, true);
        x.point(0, 1023, 40, false);
        Setup.renders("1007 and 1008", x, 0, 1007, 10, 20);
        Setup.renders("a point within the last step is never heard", x, 0, 1022, 20, 20);
        x.turn(0, 0);
        x.point(0, 1023, 40, true);
        Setup.renders("but before the first one", x, 0, 1022, 40, 40);
    }

    /** "if it is joined and there is a next one" */
    private static void joinedWithoutANext() {
        StripMixer x = flat();
        x.point(0, 16, 100, true);
        steps("joined to nothing", x, 100, 100, 100, 100);
        x.point(0, 0, 50, true);
        steps("and its last one", x, 50, 100, 100, 100);
    }

    /** "divided by (the next one's time less its time), rounded down", rising and falling */
    private static void joined() {
        StripMixer x = flat();
        x.point(0, 0, 0, true);
        x.point(0, 48, 100, false);
        steps("rising", x, 0, 33, 66, 100, 100);
        x.point(0, 0, 100, true);
        x.point(0, 48, 0, false);
        steps("falling", x, 100, 66, 33, 0, 0);
        x.point(0, 48, 99, false);
        steps("falling by one", x, 100, 99, 99, 99);
        x.point(0, 0, 98, true);
        steps("rising by one", x, 98, 98, 98, 99);
        x.point(0, 0, 99, true);
        steps("level", x, 99, 99, 99, 99);
        x.turn(0, 0);
        x.point(0, 0, 0, true);
        x.point(0, 1023, 1024, true);
        steps("over all time", x, 0, 16, 32, 48, 64);
        x.point(0, 0, 1024, true);
        x.point(0, 1023, 0, true);
        steps("over all time, falling", x, 1024, 1007, 991, 975, 959);
    }

    /** "its level", if it is not joined */
    private static void notJoined() {
        StripMixer x = flat();
        x.point(0, 0, 0, false);
        x.point(0, 48, 100, true);
        x.point(0, 64, 500, false);
        x.point(0, 80, 0, true);
        steps("held", x, 0, 0, 0, 100, 500, 0, 0);
    }

    /** "divided by (the next one's time less its time)": points one sample apart */
    private static void neighbours() {
        StripMixer x = flat();
        x.point(0, 16, 100, true);
        x.point(0, 17, 900, true);
        x.point(0, 33, 0, true);
        x.point(0, 32, 50, true);
        steps("one apart", x, 100, 100, 50, 0);
    }

    /** "A LEVEL is 0 .. 1024" */
    private static void levels() {
        for (int strip : new int[] {0, 7}) {
            StripMixer x = Setup.tracks(1, 1, -1);
            Ask.due(x, 1, "point", strip, 0, 0, 0);
            Setup.renders("level 0", x, strip, 0, 0, 0);
            Ask.due(x, 1, "point", strip, 0, 1024, 1);
            Setup.renders("level 1024", x, strip, 0, 4, -4);
            Ask.due(x, 1, "point", strip, 1023, 0, 1);
            Ask.due(x, 2, "turn", strip, 0);
        }
    }

    /** "in place of one with the same time: true", also when there are eight */
    private static void sameTime() {
        StripMixer x = flat();
        Ask.due(x, 1, "point", 0, 16, 100, 0);
        Ask.due(x, 1, "point", 0, 16, 200, 0);
        Ask.due(x, 1, "point", 0, 17, 300, 0);
        Ask.due(x, 1, "point", 0, 15, 400, 0);
        steps("three", x, 400, 200, 300);
        Ask.due(x, 3, "turn", 0, 0);
        for (int i = 0; i < 8; i++) {
            Ask.due(x, 1, "point", 0, i == 7 ? 1023 : 16 * i, 10 * i, 0);
        }
        Ask.due(x, 1, "point", 0, 0, 900, 1);
        Ask.due(x, 1, "point", 0, 1023, 901, 0);
        Ask.due(x, 1, "point", 0, 48, 902, 1);
        Ask.due(x, 1, "point", 0, 64, 903, 0);
        steps("eight", x, 900, 10, 20, 902, 903, 50, 60, 60);
        Ask.due(x, 8, "turn", 0, 0);
        Ask.due(x, 1, "point", 0, 0, 100, 0);
        Ask.due(x, 1, "point", 0, 32, 300, 0);
        Ask.due(x, 1, "point", 0, 0, 100, 1);
        steps("joined now", x, 100, 200, 300);
        Ask.due(x, 1, "point", 0, 0, 100, 0);
        steps("not joined any more", x, 100, 100, 300);
    }

    /** "false when there are eight others" */
    private static void eightOthers() {
        for (int time : new int[] {1, 19, 21, 139, 141, 1023}) {
            Refused.BUSY.no("point", 7, time, 500, 1);
            Refused.BUSY.no("point", 7, time, 0, 0);
        }
        StripMixer x = Busy.desk();
        Ask.due(x, 1, "point", 6, 1023, 500, 1);
        Ask.due(x, 8, "turn", 7, 0);
        for (int i = 0; i < 8; i++) {
            Ask.due(x, 1, "point", 7, 1023 - i, 500, 1);
        }
        Ask.due(x, 0, "point", 7, 1015, 500, 1);
        Ask.due(x, 8, "turn", 7, 0);
        Ask.due(x, 0, "turn", 7, 0);
    }

    /** "IllegalArgumentException: strip is not 0 .. 7" */
    private static void strip() {
        for (int strip : Edges.outside(0, 7)) {
            Refused.NEW.argument("point", strip, 0, 256, 0);
            Refused.BUSY.argument("point", strip, 1023, 0, 1);
        }
    }

    /** "time not 0 .. 1023", also when there are eight others */
    private static void time() {
        for (int time : Edges.outside(0, 1023)) {
            for (int strip : new int[] {0, 1, 7}) {
                Refused.NEW.argument("point", strip, time, 256, 1);
                Refused.BUSY.argument("point", strip, time, 100, 1);
            }
        }
    }

    /** "or level no level", also of a point that is there, and when there are eight others */
    private static void noLevel() {
        for (int level : Edges.outside(0, 1024)) {
            Refused.NEW.argument("point", 0, 0, level, 1);
            Refused.BUSY.argument("point", 0, 40, level, 1);
            Refused.BUSY.argument("point", 7, 20, level, 1);
            Refused.BUSY.argument("point", 7, 21, level, 1);
        }
    }
}
