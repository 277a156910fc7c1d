import java.util.concurrent.Callable;

/** What the project's tests share: a call's answer as a text, a count of the wrong ones, and common numbers. */
abstract class Checks {
    static final String INDEX = "throws.IndexOutOfBoundsException";
    static final String ARGUMENT = "throws.IllegalArgumentException";
    static final String NOTHING = "nothing";

    static final int LEAST = Integer.MIN_VALUE;
    static final int MOST = Integer.MAX_VALUE;
    static final int DAY = 1440;
    static final int YEAR = 365 * DAY;
    static final int ALL = 10 * YEAR;
    static final long TURN = 1L << 48;
    static final long QUARTER = TURN / 4;
    // A constituent of this speed turns once in 512 minutes.
    static final long SPEED_512 = 1L << 39;

    static final long[] FAR_INTS = {LEAST, LEAST + 1, MOST - 1, MOST};
    // Some of them would be right if only their lower bits were looked at.
    static final long[] FAR_LONGS = {Long.MIN_VALUE, Long.MIN_VALUE + 1, -TURN, 2 * TURN, 2 * TURN + 1, Long.MAX_VALUE};

    private static int made = 0;
    private static int wrong = 0;

    /** A call that is made with one number. */
    interface Taker {
        void take(long number);
    }

    /** The answer as a text, or throws. and the exception's name. */
    static String answer(Callable<Object> call) {
        try {
            return String.valueOf(call.call());
        } catch (Exception e) {
            return "throws." + e.getClass().getSimpleName();
        }
    }

    /** The same for a call that answers nothing. */
    static String answer(Runnable call) {
        return answer(() -> {
            call.run();
            return NOTHING;
        });
    }

    static void same(String what, Object got, Object want) {
        made++;
        if (!String.valueOf(want).equals(String.valueOf(got))) {
            wrong++;
            System.out.println(what + " answered " + got + ", due is " + want);
        }
    }

    static void due(String what, Callable<Object> call, Object want) {
        same(what, answer(call), want);
    }

    static void due(String what, Runnable call, Object want) {
        same(what, answer(call), want);
    }

    /** The numbers least .. most are taken at both ends; those one beyond, and far beyond, are refused. */
    static void dueBounds(String what, long least, long most, long[] far, String refusal, Taker call) {
        for (long good : new long[] {least, least + 1, most - 1, most}) {
            due(what + " " + good, () -> call.take(good), NOTHING);
        }
        for (long bad : new long[] {least - 1, most + 1}) {
            due(what + " " + bad, () -> call.take(bad), refusal);
        }
        for (long bad : far) {
            due(what + " " + bad, () -> call.take(bad), refusal);
        }
    }

    /** The line's length, each of its characters, and none before and behind them. */
    static void dueLine(TideTables x, int day, int k, String want) {
        due("line(" + day + ", " + k + ")", () -> x.line(day, k), want.length());
        due("signs of " + day + ", " + k, () -> {
            StringBuilder text = new StringBuilder();
            for (int j = 0; j < want.length(); j++) {
                text.append((char) x.sign(day, k, j));
            }
            return text;
        }, want);
        due("sign before", () -> x.sign(day, k, -1), INDEX);
        due("sign behind", () -> x.sign(day, k, want.length()), INDEX);
    }

    static void end() {
        System.out.println(made + " checks, " + wrong + " wrong");
        if (wrong != 0) {
            System.exit(1);
        }
    }
}
