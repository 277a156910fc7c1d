import java.util.concurrent.Callable;

/** What the project's tests share: a call's answer as a text, and a count of the wrong ones. */
final class Checks {
    static final String INDEX = "throws.IndexOutOfBoundsException";
    static final String ARGUMENT = "throws.IllegalArgumentException";
    static final String NOTHING = "nothing";

    private static int made = 0;
    private static int wrong = 0;

    private Checks() {
    }

    /** The answer as a text, or throws. and the exception's name. */
    static String answer(Callable<Object> call) {
        try {
            return String.valueOf(call.call());
        } catch (Exception e) {
            return "throws." + e.getClass().getSimpleName();
        }
    }

    /** The same for a call that answers nothing. */
    static String answer(Runnable call) {
        return answer(() -> {
            call.run();
            return NOTHING;
        });
    }

    static void same(String what, Object got, Object want) {
        made++;
        if (!String.valueOf(want).equals(String.valueOf(got))) {
            wrong++;
            System.out.println(what + " answered " + got + ", due is " + want);
        }
    }

    static void due(String what, Callable<Object> call, Object want) {
        same(what, answer(call), want);
    }

    static void due(String what, Runnable call, Object want) {
        same(what, answer(call), want);
    }

    static void end() {
        System.out.println(made + " checks, " + wrong + " wrong");
        if (wrong != 0) {
            System.exit(1);
        }
    }
}
