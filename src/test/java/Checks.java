import java.util.function.LongSupplier;

/** Counts the answers that are not as due, and prints them. */
final class Checks {
    private int made = 0;
    private int wrong = 0;
    private int sentences = 0;

    /** A test of one sentence of the document: if it finds a wrong answer, the sentence is printed behind it. */
    void test(String sentence, Runnable body) {
        sentences++;
        int before = wrong;
        try {
            body.run();
        } catch (RuntimeException e) {
            // The tests behind this one shall run all the same.
            tellWrong("a call threw " + e);
        }
        if (wrong != before) {
            System.out.println("BROKEN: " + sentence);
        }
    }

    void same(String what, long got, long due) {
        made++;
        if (got != due) {
            tellWrong(what + " answered " + got + ", due is " + due);
        }
    }

    void sameText(String what, String got, String due) {
        made++;
        if (!got.equals(due)) {
            tellWrong(what + " is " + got + ", due is " + due);
        }
    }

    void holds(String what, boolean got) {
        same(what, got ? 1 : 0, 1);
    }

    void fails(String what, boolean got) {
        same(what, got ? 1 : 0, 0);
    }

    /** The very class counts: the document names it, and a subclass would come from the machine. */
    void raises(String what, Class<? extends RuntimeException> due, LongSupplier call) {
        made++;
        String got;
        try {
            got = "answered " + call.getAsLong();
        } catch (RuntimeException e) {
            if (e.getClass() == due) {
                return;
            }
            got = "threw " + e;
        }
        tellWrong(what + " " + got + ", due is " + due.getSimpleName());
    }

    private void tellWrong(String text) {
        wrong++;
        System.out.println(text);
    }

    void end() {
        if (sentences != 0) {
            System.out.print(sentences + " sentences, ");
        }
        System.out.println(made + " checks, " + wrong + " wrong");
        if (wrong != 0) {
            System.exit(1);
        }
    }
}
