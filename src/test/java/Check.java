/** Counts what a test finds wrong: an answer that is not due, an exception that is another one, or none. */
final class Check {
    interface Call {
        Object answer();
    }

    private static int calls = 0;
    private static int wrong = 0;

    private Check() {
    }

    /** Answers are compared as texts, so that an int, a boolean and a String can be told alike. */
    static boolean due(String what, Object want, Call call) {
        calls++;
        String got = told(call);
        boolean isDue = got.equals(String.valueOf(want));
        if (!isDue) {
            wrong++;
            System.out.println(what + " answered " + got + ", due is " + want);
        }
        return isDue;
    }

    static void refused(String what, Class<? extends RuntimeException> want, Call call) {
        due(what, nameOf(want), call);
    }

    /** The answer of a call as a text, or the exception that it throws. */
    static String told(Call call) {
        try {
            return String.valueOf(call.answer());
        } catch (RuntimeException e) {
            return nameOf(e.getClass());
        }
    }

    static String nameOf(Class<?> exception) {
        return "throws." + exception.getSimpleName();
    }

    static void end() {
        System.out.println(calls + " calls, " + wrong + " wrong");
        if (wrong > 0 || calls == 0) {
            System.exit(1);
        }
    }
}
