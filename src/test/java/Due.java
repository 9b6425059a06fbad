import java.util.function.LongSupplier;

/** Counts and prints the answers that are not due. */
final class Due {
    private static int wrong = 0;
    private static int asked = 0;

    private Due() {
    }

    static void is(String call, long due, LongSupplier answer) {
        String got;
        try {
            got = Long.toString(answer.getAsLong());
        } catch (RuntimeException e) {
            got = e.getClass().getSimpleName();
        }
        same(call, Long.toString(due), got);
    }

    static void holds(String what, boolean isTrue) {
        same(what, "true", Boolean.toString(isTrue));
    }

    /** No such index. */
    static void index(String call, Runnable run) {
        refused(call, IndexOutOfBoundsException.class, run);
    }

    static void argument(String call, Runnable run) {
        refused(call, IllegalArgumentException.class, run);
    }

    static void state(String call, Runnable run) {
        refused(call, IllegalStateException.class, run);
    }

    private static void refused(String call, Class<? extends RuntimeException> due, Runnable run) {
        String got = "nothing thrown";
        try {
            run.run();
        } catch (RuntimeException e) {
            got = e.getClass().getSimpleName();
        }
        same(call, due.getSimpleName(), got);
    }

    static void same(String call, String due, String got) {
        asked++;
        if (!due.equals(got)) {
            wrong++;
            System.out.println(call + " answered " + got + ", due is " + due);
        }
    }

    static void end() {
        System.out.println(asked + " answers, " + wrong + " not as due");
        if (wrong != 0 || asked == 0) {
            System.exit(1);
        }
    }
}
