import java.util.function.Supplier;

/** Counts and prints what is not as due; a test's main ends with finish(). */
final class Check {
    private static int wrong = 0;
    private static int checked = 0;

    private Check() {
    }

    static void due(String what, Object want, Object got) {
        checked++;
        if (!want.equals(got)) {
            wrong++;
            System.out.println(what + " answered " + got + ", due is " + want);
        }
    }

    /** The answer of a call as a text, or the name of the exception that it throws. */
    static String answer(Supplier<Object> call) {
        try {
            return String.valueOf(call.get());
        } catch (RuntimeException e) {
            return e.getClass().getSimpleName();
        }
    }

    static void dueAnswer(String what, Object want, Supplier<Object> call) {
        due(what, String.valueOf(want), answer(call));
    }

    static void finish(String test) {
        System.out.println(test + ": " + checked + " checks, " + wrong + " not as due");
        if (wrong != 0 || checked == 0) {
            System.exit(1);
        }
    }
}
