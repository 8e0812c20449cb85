/** Counts the checks of one test and prints each that fails. */
final class Checker {
    private int wrong = 0;
    private int made = 0;
    private String topic = "";

    /** A call that may throw. */
    interface Call {
        Object run();
    }

    /** Runs all tests, one that throws too: it fails, and the others are run all the same. */
    void runAll(Runnable... tests) {
        for (Runnable test : tests) {
            try {
                test.run();
            } catch (RuntimeException e) {
                same("a call behind the last that was checked", "throws " + e, "nothing thrown");
            }
        }
    }

    void topic(String name) {
        topic = name;
    }

    void same(String call, Object got, Object due) {
        made++;
        if (!due.equals(got)) {
            wrong++;
            System.out.println(topic + ": " + call + " answered " + got + ", due is " + due);
        }
    }

    /** The class must be the very one that is due, not one below it. */
    void fails(String call, Class<? extends RuntimeException> due, Call made) {
        same(call, outcome(made), "throws " + due.getSimpleName());
    }

    /** An exception that a library method throws is told apart: the program has to look before it calls. */
    static Object outcome(Call call) {
        try {
            return call.run();
        } catch (RuntimeException e) {
            StackTraceElement[] frames = e.getStackTrace();
            boolean library = frames.length > 0 && frames[0].getClassName().matches("(java|jdk)\\..*");
            return "throws " + e.getClass().getSimpleName() + (library ? " in the library" : "");
        }
    }

    int wrong() {
        return wrong;
    }

    /** To be called last: ends the program with 1 if a check failed. */
    void finish() {
        System.out.println(wrong == 0 ? made + " checks hold" : wrong + " of " + made + " checks fail");
        if (wrong != 0) {
            System.exit(1);
        }
    }
}
