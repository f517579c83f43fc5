/** What all tests share: it compares answers, tells the wrong ones and ends with 1 if there was one. */
final class Check {
    static final String INDEX = "IndexOutOfBoundsException";
    static final String ARGUMENT = "IllegalArgumentException";
    static final String STATE = "IllegalStateException";

    private static int compared = 0;
    private static int wrong = 0;
    private static String about = "";

    private Check() {
    }

    interface Call {
        Object run();
    }

    /** The answer of a call as a text, or throws. and the name of what it throws. */
    static String answer(Call call) {
        try {
            return String.valueOf(call.run());
        } catch (RuntimeException e) {
            return "throws." + e.getClass().getSimpleName();
        }
    }

    /** Tells with each wrong answer what the test was about. */
    static void about(String subject) {
        about = subject + " | ";
    }

    static void due(String what, Object got, Object want) {
        compared++;
        if (!String.valueOf(got).equals(String.valueOf(want))) {
            wrong++;
            if (wrong <= 20) {
                System.out.println(about + what + " answered " + got + ", due is " + want);
            }
        }
    }

    static void dueThrow(String what, String exception, Call call) {
        due(what, answer(call), "throws." + exception);
    }

    static int compared() {
        return compared;
    }

    static boolean isWrong() {
        return wrong > 0;
    }

    static void end(String test) {
        System.out.println(test + ": " + compared + " compared, " + wrong + " wrong");
        if (wrong > 0 || compared == 0) {
            System.exit(1);
        }
    }
}
