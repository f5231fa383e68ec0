/** Compares answers with the ones that are due, and counts what is wrong. */
final class Due {
    /** A call of the class under test. */
    interface Call {
        double answer();
    }

    private final String test;
    private String part = "";
    private int checks;
    private int wrong;

    Due(String test) {
        this.test = test;
    }

    /** What is wrong from here on is told with the part of the test in which it was found. */
    void under(String part) {
        this.part = part + ": ";
    }

    int checks() {
        return checks;
    }

    void answers(String what, double want, double got) {
        checks++;
        if (!(got == want)) {
            tell(what + " answered " + got + ", due is " + want);
        }
    }

    void tells(String what, String want, String got) {
        checks++;
        if (!got.equals(want)) {
            tell(what + " told '" + got + "', due is '" + want + "'");
        }
    }

    void holds(String what, boolean holds) {
        checks++;
        if (!holds) {
            tell("it does not hold that " + what);
        }
    }

    void throwsIndex(LatticePaths x, String what, Call call) {
        throwsIt(IndexOutOfBoundsException.class, x, what, call);
    }

    void throwsArgument(LatticePaths x, String what, Call call) {
        throwsIt(IllegalArgumentException.class, x, what, call);
    }

    void throwsState(LatticePaths x, String what, Call call) {
        throwsIt(IllegalStateException.class, x, what, call);
    }

    /**
     * The exception has to be of the very class, as a subclass of it may be what the machine throws, and the call
     * must not have changed anything.
     */
    private void throwsIt(Class<? extends RuntimeException> want, LatticePaths x, String what, Call call) {
        String before = Look.at(x);
        checks++;
        try {
            tell(what + " answered " + call.answer() + ", due is a throw of " + want.getSimpleName());
        } catch (RuntimeException thrown) {
            if (thrown.getClass() != want) {
                tell(what + " threw " + thrown + ", due is " + want.getSimpleName());
            }
        }
        tells("the state behind the throw of " + what, before, Look.at(x));
    }

    /** Ends the program: with 1 if an answer was wrong, or if nothing was checked. */
    void end() {
        System.out.println(test + ": " + checks + " checks, " + wrong + " wrong");
        if (wrong > 0 || checks == 0) {
            System.exit(1);
        }
    }

    private void tell(String what) {
        wrong++;
        System.out.println(test + ": " + part + what);
    }
}
