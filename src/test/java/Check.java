/** Counts and prints the answers that are not due. */
final class Check {
    private final String test;
    private int wrong;
    private int checked;

    Check(String test) {
        this.test = test;
    }

    void same(String call, int got, int due) {
        same(call, Integer.toString(got), Integer.toString(due));
    }

    void same(String call, String got, String due) {
        checked++;
        if (!got.equals(due)) {
            wrong++;
            System.out.println(test + ": " + call + " answered " + got + ", due is " + due);
        }
    }

    void yes(String call, boolean got) {
        same(call, got ? 1 : 0, 1);
    }

    void no(String call, boolean got) {
        same(call, got ? 1 : 0, 0);
    }

    /** The exact class is due: a subclass would be one that the machine throws. */
    void throwing(String call, Runnable run, Class<? extends RuntimeException> due) {
        Class<?> got = null;
        try {
            run.run();
        } catch (RuntimeException e) {
            got = e.getClass();
        }
        checked++;
        if (got != due) {
            wrong++;
            System.out.println(test + ": " + call + " threw " + got + ", due is " + due);
        }
    }

    void badArgument(String call, Runnable run) {
        throwing(call, run, IllegalArgumentException.class);
    }

    void badIndex(String call, Runnable run) {
        throwing(call, run, IndexOutOfBoundsException.class);
    }

    void finish() {
        System.out.println(test + ": " + checked + " answers, " + wrong + " not as due");
        if (wrong != 0) {
            System.exit(1);
        }
    }
}
