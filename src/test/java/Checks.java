/** Compares answers with those that are due, prints each that differs, and ends the test. */
final class Checks {
    interface Call {
        void run();
    }

    private final String name;
    private int made = 0;
    private int wrong = 0;

    Checks(String name) {
        this.name = name;
    }

    void same(String what, long got, long due) {
        made++;
        if (got != due) {
            report(what + " answered " + got + ", due is " + due);
        }
    }

    void same(String what, double got, double due) {
        made++;
        if (got != due) {
            report(what + " answered " + got + ", due is " + due);
        }
    }

    void index(String what, Call call) {
        refused(what, IndexOutOfBoundsException.class, call);
    }

    void argument(String what, Call call) {
        refused(what, IllegalArgumentException.class, call);
    }

    void state(String what, Call call) {
        refused(what, IllegalStateException.class, call);
    }

    /** The class must be the very one: one below it is thrown by the machine. */
    void refused(String what, Class<?> due, Call call) {
        made++;
        Class<?> got = null;
        try {
            call.run();
        } catch (RuntimeException e) {
            got = e.getClass();
        }
        if (got != due) {
            report(what + " threw " + got + ", due is " + due);
        }
    }

    void isTrue(String what, boolean holds) {
        made++;
        if (!holds) {
            report(what);
        }
    }

    int made() {
        return made;
    }

    void report(String line) {
        wrong++;
        System.out.println(name + ": " + line);
    }

    void end() {
        System.out.println(name + ": " + made + " checks, " + wrong + " wrong");
        if (wrong != 0) {
            System.exit(1);
        }
    }
}
