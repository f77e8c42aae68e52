/** Counts the answers that are not as they are due, and prints them. */
final class Checks {
    /** Something that may throw. */
    interface Action {
        void act();
    }

    private int done = 0;
    private int wrong = 0;

    void same(String what, long got, long due) {
        done++;
        if (got != due) {
            wrong++;
            System.out.println(what + ": answered " + got + ", due is " + due);
        }
    }

    void same(String what, boolean got, boolean due) {
        same(what, got ? 1 : 0, due ? 1 : 0);
    }

    /** Tells 0.0 from -0.0, too. */
    void sameReal(String what, double got, double due) {
        done++;
        if (Double.doubleToRawLongBits(got) != Double.doubleToRawLongBits(due)) {
            wrong++;
            System.out.println(what + ": answered " + got + ", due is " + due);
        }
    }

    /** The action throws an exception of exactly this class; of none if due is null. */
    void thrown(String what, Class<? extends RuntimeException> due, Action action) {
        done++;
        Class<?> got = null;
        try {
            action.act();
        } catch (RuntimeException e) {
            got = e.getClass();
        }
        if (got != due) {
            wrong++;
            System.out.println(what + ": threw " + got + ", due is " + due);
        }
    }

    void end(String name) {
        System.out.println(name + ": " + done + " answers, " + wrong + " wrong");
        if (wrong != 0 || done == 0) {
            System.exit(1);
        }
    }
}
