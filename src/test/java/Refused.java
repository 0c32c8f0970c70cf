import java.util.ArrayList;
import java.util.List;
import java.util.function.Supplier;

/**
 * Calls that must be refused, each on new objects of the same making. After such a call an object must answer all that
 * can be asked as one that never had it. The questions come in several parts, each on an object of its own, as an
 * object answers 512 calls only and some questions change it.
 */
final class Refused {
    static final Refused NEW = new Refused("new", StripMixer::new);
    static final Refused BUSY = new Refused("busy", Busy::desk);
    static final Refused FULL_OF_CLIPS = new Refused("16 clips", Busy::fullOfClips);
    static final Refused FULL_OF_TAKES = new Refused("no take open", Busy::fullOfTakes);
    private static final int PARTS = 13;

    private final String where;
    private final Supplier<StripMixer> making;
    private final List<List<String>> untouched = new ArrayList<>();

    Refused(String where, Supplier<StripMixer> making) {
        this.where = where;
        this.making = making;
        for (int part = 0; part < PARTS; part++) {
            untouched.add(asked(making.get(), part));
        }
    }

    void index(String name, long... a) {
        refused("java.lang.IndexOutOfBoundsException", name, a);
    }

    void argument(String name, long... a) {
        refused("java.lang.IllegalArgumentException", name, a);
    }

    void state(String name, long... a) {
        refused("java.lang.IllegalStateException", name, a);
    }

    void element(String name, long... a) {
        refused("java.util.NoSuchElementException", name, a);
    }

    void none(String name, long... a) {
        refused("-1", name, a);
    }

    /** The call answers false. */
    void no(String name, long... a) {
        refused("0", name, a);
    }

    private void refused(String due, String name, long... a) {
        String call = where + ": " + Ask.text(name, a);
        for (int part = 0; part < PARTS; part++) {
            StripMixer x = making.get();
            Check.same(call, Ask.answer(x, name, a), due);
            sameAnswers(call, asked(x, part), untouched.get(part));
        }
    }

    private static void sameAnswers(String call, List<String> got, List<String> due) {
        for (int i = 0; i < due.size(); i++) {
            if (!got.get(i).equals(due.get(i))) {
                Check.same(call + " has changed something, then", got.get(i), due.get(i));
                return;
            }
        }
    }

    private static List<String> asked(StripMixer x, int part) {
        List<String> answers = new ArrayList<>();
        switch (part) {
            case 0: askTakes(x, 0, answers); break;
            case 1: askTakes(x, 4, answers); break;
            case 2: askBlock(x, 24, answers); break;
            case 3: askMeters(x, answers); break;
            case 4: askAllTime(x, answers); break;
            case 5: askSwitches(x, answers); break;
            case 6: askClips(x, answers); break;
            case 7: askWays(x, answers); break;
            case 8: askBounce(x, answers); break;
            default: askTime(x, part == 12 ? 980 : 44 * (part - 9), answers); break;
        }
        return answers;
    }

    private static void ask(StripMixer x, List<String> answers, String name, long... a) {
        answers.add(Ask.text(name, a) + " " + Ask.answer(x, name, a));
    }

    private static void askTakes(StripMixer x, int first, List<String> answers) {
        for (int t = first; t < first + 4; t++) {
            for (int i = -1; i <= 64; i++) {
                ask(x, answers, "take", t, i);
            }
        }
    }

    private static void askBlock(StripMixer x, int n, List<String> answers) {
        for (int strip = 0; strip < 8; strip++) {
            for (int i = 0; i <= n; i++) {
                ask(x, answers, "sample", strip, i);
            }
        }
    }

    private static void askMeters(StripMixer x, List<String> answers) {
        for (int strip = 0; strip < 8; strip++) {
            for (int what = 0; what < 5; what++) {
                ask(x, answers, "meter", strip, what);
            }
        }
    }

    private static void askTime(StripMixer x, int from, List<String> answers) {
        ask(x, answers, "render", from, 44);
        askBlock(x, 44, answers);
    }

    private static void askAllTime(StripMixer x, List<String> answers) {
        for (int from = 0; from < 1024; from += 64) {
            ask(x, answers, "render", from, 64);
            for (int strip = 0; strip < 8; strip++) {
                ask(x, answers, "meter", strip, 0);
                ask(x, answers, "meter", strip, 1);
            }
        }
    }

    /** Behind the switches are faders under points, and what is muted or not solo. */
    private static void askSwitches(StripMixer x, List<String> answers) {
        for (int strip = 0; strip < 8; strip++) {
            ask(x, answers, "turn", strip, 0);
            ask(x, answers, "turn", strip, 2);
            ask(x, answers, "turn", strip, 4);
        }
        askTime(x, 0, answers);
    }

    /** Which numbers there are, how long those clips are and how far their fades go, and which number comes next. */
    private static void askClips(StripMixer x, List<String> answers) {
        for (int c = -1; c <= 16; c++) {
            for (int k = 1; k <= 20; k++) {
                ask(x, answers, "split", c, k);
            }
            ask(x, answers, "drop", c);
        }
        ask(x, answers, "clip", 3, 500, 0, 0, 1);
    }

    /** Which ways would lead in a ring. */
    private static void askWays(StripMixer x, List<String> answers) {
        for (int from = 4; from < 7; from++) {
            for (int to = 4; to < 7; to++) {
                ask(x, answers, "send", from, to, 7);
                ask(x, answers, "route", from, to);
            }
        }
        askMeters(x, answers);
    }

    private static void askBounce(StripMixer x, List<String> answers) {
        ask(x, answers, "bounce", 7, 8, 20);
        for (int t = 0; t < 8; t++) {
            for (int i = -1; i <= 20; i++) {
                ask(x, answers, "take", t, i);
            }
        }
        askBlock(x, 20, answers);
    }
}
