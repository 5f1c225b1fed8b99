/** Counts the answers that are not due. */
final class Check {
    interface Call {
        long answer();
    }

    private static int wrong = 0;

    private Check() {
    }

    static void due(String what, long got, long want) {
        if (got != want) {
            wrong++;
            System.out.println(what + " answered " + got + ", due is " + want);
        }
    }

    static void refused(String what, Class<? extends RuntimeException> want, Call call) {
        Class<?> got = null;
        try {
            call.answer();
        } catch (RuntimeException e) {
            got = e.getClass();
        }
        if (got != want) {
            wrong++;
            System.out.println(what + " threw " + got + ", due is " + want);
        }
    }

    static void index(String what, Call call) {
        refused(what, IndexOutOfBoundsException.class, call);
    }

    static void argument(String what, Call call) {
        refused(what, IllegalArgumentException.class, call);
    }

    static void state(String what, Call call) {
        refused(what, IllegalStateException.class, call);
    }

    static boolean isClean() {
        return wrong == 0;
    }

    static void end() {
        if (wrong != 0) {
            System.out.println(wrong + " answers are not as due");
            System.exit(1);
        }
    }
}
