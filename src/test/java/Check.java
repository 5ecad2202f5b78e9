import java.util.List;

/** What the tests share: due answers, due exceptions, and what may not change. */
final class Check {
    interface Call {
        long answer();
    }

    private static int wrong = 0;
    private static int looked = 0;

    private Check() {
    }

    static void due(String call, long got, long want) {
        looked++;
        if (got != want) {
            wrong++;
            System.out.println(call + " answered " + got + ", due is " + want);
        }
    }

    static void due(String call, boolean got, boolean want) {
        due(call, got ? 1 : 0, want ? 1 : 0);
    }

    static void holds(String what, boolean is) {
        looked++;
        if (!is) {
            wrong++;
            System.out.println("does not hold: " + what);
        }
    }

    /** The exception itself, not one below it: the machine's own are below those of the document. */
    static void dueThrow(String call, Class<? extends RuntimeException> want, Call made) {
        looked++;
        try {
            long got = made.answer();
            wrong++;
            System.out.println(call + " answered " + got + ", due is " + want.getName());
        } catch (RuntimeException e) {
            if (e.getClass() != want) {
                wrong++;
                System.out.println(call + " threw " + e.getClass().getName() + ", due is " + want.getName());
            }
        }
    }

    static void illegalArgument(String call, Watched x, Call made) {
        refused(call, IllegalArgumentException.class, x, made);
    }

    static void illegalState(String call, Watched x, Call made) {
        refused(call, IllegalStateException.class, x, made);
    }

    static void outOfBounds(String call, Watched x, Call made) {
        refused(call, IndexOutOfBoundsException.class, x, made);
    }

    private static void refused(String call, Class<? extends RuntimeException> want, Watched x, Call made) {
        List<Long> before = x.state();
        dueThrow(call, want, made);
        holds(call + " changes nothing", before.equals(x.state()));
    }

    /** An answer by which nothing may have changed. */
    static void unchanged(String call, Watched x, long want, Call made) {
        List<Long> before = x.state();
        due(call, made.answer(), want);
        holds(call + " changes nothing", before.equals(x.state()));
    }

    static void end(String test) {
        System.out.println(test + ": " + looked + " looks, " + wrong + " wrong");
        if (wrong != 0) {
            System.exit(1);
        }
    }
}
