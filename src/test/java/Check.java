import java.util.function.Supplier;

/** Counts the answers that are not as due and ends the test with exit code 1 if there was one. */
final class Check {
    interface Call {
        Object answer();
    }

    interface CallOn {
        Object answer(MoorWatch x);
    }

    static final String INDEX = "throws.IndexOutOfBoundsException";
    static final String ARGUMENT = "throws.IllegalArgumentException";
    static final String STATE = "throws.IllegalStateException";

    private static int wrong = 0;

    private Check() {
    }

    static void due(String what, Object want, Call call) {
        String got = answerOf(call);
        if (!got.equals(String.valueOf(want))) {
            wrong++;
            System.out.println(what + ": answered " + got + ", due is " + want);
        }
    }

    static void outOfBounds(String what, Call call) {
        due(what, INDEX, call);
    }

    static void badArgument(String what, Call call) {
        due(what, ARGUMENT, call);
    }

    static void badState(String what, Call call) {
        due(what, STATE, call);
    }

    /** The call throws what is due, twice, and leaves the berth as one that never had the call. */
    static void refused(String what, String exception, Supplier<MoorWatch> berth, CallOn call) {
        MoorWatch x = berth.get();
        due(what, exception, () -> call.answer(x));
        due(what + ", once more", exception, () -> call.answer(x));
        due(what + ", what it changed", "none", () -> Picture.difference(Picture.of(berth.get()), Picture.of(x)));
    }

    /** The call answers what is due and leaves the berth as one that never had the call. */
    static void asks(String what, Object want, Supplier<MoorWatch> berth, CallOn call) {
        MoorWatch x = berth.get();
        due(what, want, () -> call.answer(x));
        due(what + ", what it changed", "none", () -> Picture.difference(Picture.of(berth.get()), Picture.of(x)));
    }

    /** The answer as a text, or the very class that was thrown: a subclass is not what is due. */
    static String answerOf(Call call) {
        try {
            return String.valueOf(call.answer());
        } catch (RuntimeException e) {
            return "throws." + e.getClass().getSimpleName();
        }
    }

    static void finish() {
        System.out.println(wrong == 0 ? "all answers are as due" : wrong + " answers are not as due");
        if (wrong != 0) {
            System.exit(1);
        }
    }
}
