/** Counts what is wrong in a test, prints it, and ends the test with exit code 1 if anything was. */
final class Check {

    interface Call {
        Object answer();
    }

    private final String name;
    private String sentence = "";
    private int asked;
    private int wrong;

    Check(String name) {
        this.name = name;
    }

    /** What is asked from here on tests this sentence of the document; QuotesTest looks for it there. */
    void says(String quoted) {
        sentence = " [" + quoted + "]";
    }

    /** The same for a line of a promise. */
    void says(int promise, String quoted) {
        sentence = " [promise " + promise + ": " + quoted + "]";
    }

    /** Compares an answer; numbers are given as the kind of number that the call returns. */
    void same(String call, Object got, Object due) {
        asked++;
        if (!due.equals(got)) {
            wrong++;
            System.out.println(name + ": " + call + " answered " + got + ", due is " + due + sentence);
        }
    }

    /** The call must answer, whatever; it must not throw. */
    void taken(String call, Call made) {
        Object got;
        try {
            got = made.answer() == null ? "null" : "an answer";
        } catch (RuntimeException e) {
            got = e.getClass();
        }
        same(call, got, "an answer");
    }

    /** The call must throw just this class, not one below it: those are the machine's own. */
    void refused(String call, Class<? extends RuntimeException> due, Call made) {
        Object got;
        try {
            got = made.answer();
        } catch (RuntimeException e) {
            got = e.getClass();
        }
        same(call, got, due);
    }

    void bad(String call, Call made) {
        refused(call, IllegalArgumentException.class, made);
    }

    void full(String call, Call made) {
        refused(call, IllegalStateException.class, made);
    }

    void unsupported(String call, Call made) {
        refused(call, UnsupportedOperationException.class, made);
    }

    void unknown(String call, Call made) {
        refused(call, IndexOutOfBoundsException.class, made);
    }

    void missing(String call, Call made) {
        refused(call, java.util.NoSuchElementException.class, made);
    }

    void end() {
        System.out.println(name + ": " + asked + " answers, " + wrong + " not as due");
        if (wrong > 0) {
            System.exit(1);
        }
    }
}
