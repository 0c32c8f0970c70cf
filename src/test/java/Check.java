/** Counts the calls whose answer is not the one that is due, and prints them. */
final class Check {
    private static int wrong = 0;

    private Check() {
    }

    static void same(String call, long got, long due) {
        if (got != due) {
            wrong++;
            System.out.println(call + " answered " + got + ", due is " + due);
        }
    }

    static void same(String call, boolean got, boolean due) {
        same(call, got ? 1 : 0, due ? 1 : 0);
    }

    static void same(String call, String got, String due) {
        if (!got.equals(due)) {
            wrong++;
            System.out.println(call + " answered " + got + ", due is " + due);
        }
    }

    static void index(String call, Runnable run) {
        thrown(call, IndexOutOfBoundsException.class, run);
    }

    static void argument(String call, Runnable run) {
        thrown(call, IllegalArgumentException.class, run);
    }

    static void state(String call, Runnable run) {
        thrown(call, IllegalStateException.class, run);
    }

    static void element(String call, Runnable run) {
        thrown(call, java.util.NoSuchElementException.class, run);
    }

    static void end() {
        if (wrong > 0) {
            System.exit(1);
        }
    }

    private static void thrown(String call, Class<? extends RuntimeException> due, Runnable run) {
        String got = "nothing";
        try {
            run.run();
        } catch (RuntimeException e) {
            got = e.getClass().getName();
        }
        same(call + " throws", got, due.getName());
    }
}
