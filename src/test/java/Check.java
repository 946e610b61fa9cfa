/** Counts the answers that are not as due and ends the test with exit code 1 if there was one. */
final class Check {
    interface Call {
        Object answer();
    }

    private static int wrong = 0;

    private Check() {
    }

    static void due(String what, Object want, Call call) {
        String got = answerOf(call);
        if (!got.equals(String.valueOf(want))) {
            wrong++;
            System.out.println(what + ": answered " + got + ", due is " + want);
        }
    }

    static void outOfBounds(String what, Call call) {
        due(what, "throws.IndexOutOfBoundsException", call);
    }

    static void badArgument(String what, Call call) {
        due(what, "throws.IllegalArgumentException", call);
    }

    static void badState(String what, Call call) {
        due(what, "throws.IllegalStateException", call);
    }

    /** The answer as a text, or the very class that was thrown: a subclass is not what is due. */
    static String answerOf(Call call) {
        try {
            return String.valueOf(call.answer());
        } catch (RuntimeException e) {
            return "throws." + e.getClass().getSimpleName();
        }
    }

    static void finish() {
        System.out.println(wrong == 0 ? "all answers are as due" : wrong + " answers are not as due");
        if (wrong != 0) {
            System.exit(1);
        }
    }
}
