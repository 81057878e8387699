/** Compares answers with those that are due, and ends a test with exit code 1 if one was not. */
final class Due {
    /** A call whose answer (or exception) is looked at. */
    interface Call {
        Object answer();
    }

    private static int right = 0;
    private static int wrong = 0;

    private Due() {
    }

    /** The answer of a call as a text; the name of the exception, if it throws one. */
    static String told(Call call) {
        try {
            return String.valueOf(call.answer());
        } catch (RuntimeException thrown) {
            return thrown.getClass().getSimpleName();
        }
    }

    static void is(String what, Object want, Call call) {
        String got = told(call);
        if (got.equals(String.valueOf(want))) {
            right++;
        } else {
            wrong++;
            System.out.println(what + " answered " + got + ", due is " + want);
        }
    }

    static void argument(String what, Call call) {
        is(what, "IllegalArgumentException", call);
    }

    static void state(String what, Call call) {
        is(what, "IllegalStateException", call);
    }

    static void index(String what, Call call) {
        is(what, "IndexOutOfBoundsException", call);
    }

    static void end(String test) {
        System.out.println(test + ": " + right + " answers as due, " + wrong + " not");
        if (wrong > 0) {
            System.exit(1);
        }
    }
}
