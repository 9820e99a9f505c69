/** Compares answers with those that are due and ends with exit code 1 if one was not. */
final class Check {
    interface Call {
        int answer();
    }

    private static final long MOST_MILLISECONDS_OF_A_CALL = 60_000L;

    private final Thread watch = new Thread(this::endWithoutAnswers);
    private int wrong = 0;
    private volatile int checked = 0;

    Check() {
        watch.setDaemon(true);
        watch.start();
    }

    /** A call that does not end is a fault as well, and must not hold up the other tests for ever. */
    private void endWithoutAnswers() {
        int before = -1;
        try {
            while (before != checked) {
                before = checked;
                Thread.sleep(MOST_MILLISECONDS_OF_A_CALL);
            }
        } catch (InterruptedException e) {
            return;
        }
        System.out.println("a call did not end, behind " + before + " answers");
        Runtime.getRuntime().halt(1);
    }

    void due(String what, int got, int want) {
        checked = checked + 1;
        if (got != want) {
            wrong++;
            System.out.println(what + " answered " + got + ", due is " + want);
        }
    }

    void due(String what, String got, String want) {
        checked = checked + 1;
        if (!got.equals(want)) {
            wrong++;
            System.out.println(what + " answered " + got + ", due is " + want);
        }
    }

    /** The class must be the very one: what the machine throws by itself is a class below it. */
    void thrown(String what, Class<? extends RuntimeException> want, Call call) {
        due(what, outcome(call), "throws " + want.getSimpleName());
    }

    void index(String what, Call call) {
        thrown(what, IndexOutOfBoundsException.class, call);
    }

    void argument(String what, Call call) {
        thrown(what, IllegalArgumentException.class, call);
    }

    void state(String what, Call call) {
        thrown(what, IllegalStateException.class, call);
    }

    static String outcome(Call call) {
        try {
            return "" + call.answer();
        } catch (RuntimeException e) {
            return "throws " + e.getClass().getSimpleName();
        }
    }

    void end(String name) {
        watch.interrupt();
        System.out.println(name + ": " + checked + " answers looked at, " + wrong + " not as due");
        if (wrong != 0) {
            System.exit(1);
        }
    }
}
