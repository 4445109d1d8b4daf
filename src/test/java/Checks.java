import java.util.function.LongSupplier;

/** Counts the answers that are not as due, and prints them. */
final class Checks {
    private int made = 0;
    private int wrong = 0;

    void same(String what, long got, long due) {
        made++;
        if (got != due) {
            wrong++;
            System.out.println(what + " answered " + got + ", due is " + due);
        }
    }

    void holds(String what, boolean got) {
        same(what, got ? 1 : 0, 1);
    }

    void fails(String what, boolean got) {
        same(what, got ? 1 : 0, 0);
    }

    /** The very class counts: the document names it, and a subclass would come from the machine. */
    void raises(String what, Class<? extends RuntimeException> due, LongSupplier call) {
        made++;
        String got;
        try {
            got = "answered " + call.getAsLong();
        } catch (RuntimeException e) {
            if (e.getClass() == due) {
                return;
            }
            got = "threw " + e;
        }
        wrong++;
        System.out.println(what + " " + got + ", due is " + due.getSimpleName());
    }

    void end() {
        System.out.println(made + " checks, " + wrong + " wrong");
        if (wrong != 0) {
            System.exit(1);
        }
    }
}
