/** Counts the calls whose answer is not the one that is due, and ends the test with them. */
final class Check {
    static final Class<?> STATE = IllegalStateException.class;
    static final Class<?> ARGUMENT = IllegalArgumentException.class;
    static final Class<?> INDEX = IndexOutOfBoundsException.class;
    static final Class<?> POWER = UnsupportedOperationException.class;
    static final Class<?> ELEMENT = java.util.NoSuchElementException.class;

    private final String test;
    private String sentence = "";
    private int wrong = 0;

    Check(String test) {
        this.test = test;
    }

    /** Runs the test of one sentence; its words, as they stand in the document, are told with each fault. */
    void says(String words, Runnable itsTest) {
        sentence = " '" + words + "'";
        try {
            itsTest.run();
        } catch (RuntimeException e) {
            tell("a call threw " + e + " at " + e.getStackTrace()[0] + ", and none is due");
        }
        sentence = "";
    }

    void due(String call, long got, long want) {
        if (got != want) {
            tell(call + " answered " + got + ", due is " + want);
        }
    }

    void due(String call, boolean got, boolean want) {
        if (got != want) {
            tell(call + " answered " + got + ", due is " + want);
        }
    }

    /** The exception's class must be the very one: a subclass is a fault too. */
    void dueThrow(String call, Class<?> want, Runnable run) {
        try {
            run.run();
        } catch (RuntimeException e) {
            if (e.getClass() != want) {
                tell(call + " threw " + e.getClass().getName() + ", due is " + want.getName());
            }
            return;
        }
        tell(call + " threw nothing, due is " + want.getName());
    }

    void tell(String fault) {
        wrong++;
        System.out.println(test + sentence + ": " + fault);
    }

    void end() {
        if (wrong != 0) {
            System.out.println(test + ": " + wrong + " answers are not as due");
            System.exit(1);
        }
    }
}
