/** Counts answers that are as due and those that are not, for the tests of the project. */
final class Due {
    /** A call that answers nothing. */
    interface VoidCall {
        void run();
    }

    private static int passed;
    private static int failed;

    private Due() {
    }

    static void is(String what, long want, long got) {
        count(want == got, what + " answered " + got + ", due is " + want);
    }

    static void is(String what, String want, String got) {
        count(want.equals(got), what + " answered " + got + ", due is " + want);
    }

    static void holds(String what, boolean isSo) {
        count(isSo, what + " does not hold");
    }

    static void noSuch(String what, VoidCall call) {
        refused(what, IndexOutOfBoundsException.class, call);
    }

    static void outOfRange(String what, VoidCall call) {
        refused(what, IllegalArgumentException.class, call);
    }

    static void notNow(String what, VoidCall call) {
        refused(what, IllegalStateException.class, call);
    }

    private static void refused(String what, Class<?> want, VoidCall call) {
        Class<?> got = null;
        try {
            call.run();
        } catch (RuntimeException e) {
            got = e.getClass();
        }
        count(got == want, what + " threw " + got + ", due is " + want);
    }

    private static void count(boolean isDue, String otherwise) {
        if (isDue) {
            passed++;
        } else {
            failed++;
            System.out.println(otherwise);
        }
    }

    /** The last call of each test's main. */
    static void end(String test) {
        System.out.println(test + ": " + passed + " passed, " + failed + " failed");
        if (failed != 0) {
            System.exit(1);
        }
    }
}
