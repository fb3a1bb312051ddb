/** Counts what a test asks, and ends it with exit code 1 if an answer was not the one that is due. */
final class Check {
    private final String name;
    private String sentence = "";
    private int asked;
    private int wrong;

    Check(String name) {
        this.name = name;
    }

    /** What is asked from now on speaks of that sentence of the document; a fault is told with it. */
    void about(String nextSentence) {
        sentence = " [" + nextSentence + "]";
    }

    void same(String what, long got, long due) {
        asked++;
        if (got != due) {
            tell(what + " answered " + got + ", due is " + due);
        }
    }

    void same(String what, boolean got, boolean due) {
        asked++;
        if (got != due) {
            tell(what + " answered " + got + ", due is " + due);
        }
    }

    void same(String what, String got, String due) {
        asked++;
        if (!got.equals(due)) {
            tell(what + " answered\n  " + got + "\ndue is\n  " + due);
        }
    }

    /** The call must throw just that class. */
    void refused(String what, Class<?> due, Runnable call) {
        asked++;
        try {
            call.run();
            tell(what + " threw nothing, due is " + due.getSimpleName());
        } catch (RuntimeException e) {
            if (e.getClass() != due) {
                tell(what + " threw " + e + ", due is " + due.getSimpleName());
            }
        }
    }

    int wrong() {
        return wrong;
    }

    private void tell(String fault) {
        wrong++;
        if (wrong <= 20) {
            System.out.println(name + sentence + ": " + fault);
        }
    }

    void end() {
        System.out.println(name + ": " + asked + " answers, " + wrong + " of them wrong");
        if (wrong > 0) {
            System.exit(1);
        }
    }
}
