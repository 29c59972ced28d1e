/** Counts answers that are as due, prints those that are not, and ends a test's program. */
final class Check {
    /** A call of the face, wrapped so that what it throws can be looked at. */
    interface Call {
        void make();
    }

    private static int right = 0;
    private static int wrong = 0;

    private Check() {
    }

    static void due(String what, long got, long want) {
        tell(got == want, what + " answered " + got + ", due is " + want);
    }

    static void due(String what, boolean got, boolean want) {
        tell(got == want, what + " answered " + got + ", due is " + want);
    }

    static void due(String what, float got, float want) {
        tell(got == want, what + " answered " + got + ", due is " + want);
    }

    static void due(String what, String got, String want) {
        tell(got.equals(want), what + " answered " + got + ", due is " + want);
    }

    static void index(String what, Call call) {
        refused(what, IndexOutOfBoundsException.class, call);
    }

    static void argument(String what, Call call) {
        refused(what, IllegalArgumentException.class, call);
    }

    static void state(String what, Call call) {
        refused(what, IllegalStateException.class, call);
    }

    /** The class must be the very one: the machine's own exceptions are subclasses of these. */
    static void refused(String what, Class<?> due, Call call) {
        String got = "nothing";
        try {
            call.make();
        } catch (RuntimeException thrown) {
            got = thrown.getClass().getName();
        }
        tell(got.equals(due.getName()), what + " threw " + got + ", due is " + due.getName());
    }

    static void tell(boolean isRight, String text) {
        if (isRight) {
            right++;
        } else {
            wrong++;
            System.out.println("WRONG: " + text);
        }
    }

    static void finish() {
        System.out.println(right + " answers as due, " + wrong + " not");
        if (wrong > 0 || right == 0) {
            System.exit(1);
        }
    }
}
