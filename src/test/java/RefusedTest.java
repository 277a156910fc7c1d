import java.util.function.Consumer;

/**
 * "In all calls IndexOutOfBoundsException is thrown when there is no such constituent, year, minute or
 * day; of several exceptions the one named first. A call that throws changes nothing."
 *
 * Each call is made with every mixture of right arguments, too small ones and too large ones, on a
 * furnished object of its own, whose picture has to be the same before and behind it.
 */
public final class RefusedTest extends Checks {
    private static final int[] CONSTITUENTS = {3, -1, 8};
    private static final int[] YEARS = {0, -1, 10};
    private static final int[] MINUTES = {1000, -1, ALL + 2 * DAY};
    private static final int[] DAYS = {1, -1, 3652};
    private static final int[] EXTREMES = {0, -1, 3};
    private static final int[] SIGNS = {0, -1, 23};

    public static void main(String[] args) {
        pictureShowsEveryChange();
        level();
        constituent();
        node();
        days();
        first();
        yearHeightAndExtremes();
        position();
        cosine();
        mean();
        extreme();
        lineAndSign();
        above();
        end();
    }

    /** An object in which no number is as at first. */
    private static TideTables furnished() {
        TideTables x = new TideTables();
        x.level(-4321);
        x.days(1, 366);
        x.days(8, 366);
        for (int i = 0; i < 8; i++) {
            x.constituent(i, 20000 + 7000 * i, SPEED_512 / (i + 1) + i, TURN / (i + 3));
            for (int year = 0; year < 10; year++) {
                x.node(i, year, 50000 + 1000 * i + 100 * year, TURN / (i + year + 5));
            }
        }
        return x;
    }

    /** All that can be seen of an object's numbers, in some 110 calls. */
    private static String picture(TideTables x) {
        StringBuilder text = new StringBuilder();
        for (int year = 0; year < 10; year++) {
            int first = x.first(year);
            text.append(first).append(' ').append(x.height(first));
            for (int i = 0; i < 8; i++) {
                text.append(' ').append(x.position(i, first));
            }
            text.append('\n');
        }
        text.append(x.first(10)).append(' ').append(x.height(1000)).append('\n');
        for (int day : new int[] {1, 3649}) {
            text.append(x.extremes(day)).append(' ').append(x.extreme(day, 0, 0));
            text.append(' ').append(x.extreme(day, 0, 1)).append(' ').append(x.line(day, 0)).append('\n');
        }
        return text.toString();
    }

    private static void dueRefused(String what, String refusal, Consumer<TideTables> call) {
        TideTables x = furnished();
        String before = picture(x);
        due(what, () -> call.accept(x), refusal);
        same("the picture behind " + what, picture(x), before);
    }

    // If the picture did not show a change, that a refused call leaves it alone would say nothing.

    private static void dueChange(String what, Consumer<TideTables> call) {
        TideTables x = furnished();
        String before = picture(x);
        due(what, () -> call.accept(x), NOTHING);
        same("the picture is the same behind " + what, picture(x).equals(before), false);
    }

    private static void pictureShowsEveryChange() {
        dueChange("level", x -> x.level(-4320));
        for (int i = 0; i < 8; i++) {
            int c = i;
            dueChange("amplitude of " + i, x -> x.constituent(c, 5, SPEED_512 / (c + 1) + c, TURN / (c + 3)));
            dueChange("speed of " + i, x -> x.constituent(c, 20000 + 7000 * c, 6, TURN / (c + 3)));
            dueChange("phase of " + i, x -> x.constituent(c, 20000 + 7000 * c, SPEED_512 / (c + 1) + c, 7));
            for (int year = 0; year < 10; year++) {
                int y = year;
                dueChange("factor of " + i + ", " + y, x -> x.node(c, y, 5, TURN / (c + y + 5)));
                dueChange("shift of " + i + ", " + y, x -> x.node(c, y, 50000 + 1000 * c + 100 * y, 6));
            }
        }
        for (int year = 0; year < 10; year++) {
            int y = year;
            dueChange("days of " + y, x -> x.days(y, y == 1 || y == 8 ? 365 : 366));
        }
    }

    /** The exception due, with the named first given first, or null when nothing is wrong. */
    private static String refusal(boolean wrong, String first, boolean alsoWrong, String second) {
        if (wrong) {
            return first;
        }
        return alsoWrong ? second : null;
    }

    private static String indexFirst(boolean wrongIndex, boolean wrongArgument) {
        return refusal(wrongIndex, INDEX, wrongArgument, ARGUMENT);
    }

    private static String argumentFirst(boolean wrongArgument, boolean wrongIndex) {
        return refusal(wrongArgument, ARGUMENT, wrongIndex, INDEX);
    }

    private static void dueIfRefused(String what, String refusal, Consumer<TideTables> call) {
        if (refusal != null) {
            dueRefused(what, refusal, call);
        }
    }

    private static void level() {
        for (int v : new int[] {-1000001, 1000001, LEAST, MOST}) {
            dueRefused("level(" + v + ")", ARGUMENT, x -> x.level(v));
        }
    }

    private static void constituent() {
        for (int i : CONSTITUENTS) {
            for (int amplitude : new int[] {5, -1, 100001}) {
                for (long speed : new long[] {6, -1, 1L << 40}) {
                    for (long phase : new long[] {7, -1, TURN}) {
                        String refusal = indexFirst(i != 3, amplitude != 5 || speed != 6 || phase != 7);
                        dueIfRefused("constituent(" + i + ", " + amplitude + ", " + speed + ", " + phase + ")",
                                refusal, x -> x.constituent(i, amplitude, speed, phase));
                    }
                }
            }
        }
    }

    private static void node() {
        for (int i : CONSTITUENTS) {
            for (int year : YEARS) {
                for (int factor : new int[] {5, -1, 81921}) {
                    for (long shift : new long[] {6, -1, TURN}) {
                        String refusal = indexFirst(i != 3 || year != 0, factor != 5 || shift != 6);
                        dueIfRefused("node(" + i + ", " + year + ", " + factor + ", " + shift + ")",
                                refusal, x -> x.node(i, year, factor, shift));
                    }
                }
            }
        }
    }

    private static void days() {
        for (int year : YEARS) {
            for (int n : new int[] {366, 364, 367}) {
                dueIfRefused("days(" + year + ", " + n + ")", indexFirst(year != 0, n != 366), x -> x.days(year, n));
            }
        }
    }

    private static void first() {
        for (int year : new int[] {-1, 11}) {
            dueRefused("first(" + year + ")", INDEX, x -> x.first(year));
        }
    }

    private static void yearHeightAndExtremes() {
        for (int minute : new int[] {MINUTES[1], MINUTES[2]}) {
            dueRefused("year(" + minute + ")", INDEX, x -> x.year(minute));
            dueRefused("height(" + minute + ")", INDEX, x -> x.height(minute));
        }
        for (int day : new int[] {DAYS[1], DAYS[2]}) {
            dueRefused("extremes(" + day + ")", INDEX, x -> x.extremes(day));
        }
    }

    private static void position() {
        for (int i : CONSTITUENTS) {
            for (int minute : MINUTES) {
                dueIfRefused("position(" + i + ", " + minute + ")",
                        indexFirst(i != 3 || minute != 1000, false), x -> x.position(i, minute));
            }
        }
    }

    private static void cosine() {
        for (long position : new long[] {-1, TURN}) {
            dueRefused("cosine(" + position + ")", ARGUMENT, x -> x.cosine(position));
        }
    }

    private static void mean() {
        for (int minute : MINUTES) {
            for (int n : new int[] {2000, 0, 2001}) {
                dueIfRefused("mean(" + minute + ", " + n + ")",
                        argumentFirst(n != 2000, minute != 1000), x -> x.mean(minute, n));
            }
        }
        // Of the n minutes the last is none.
        dueRefused("mean over the end", INDEX, x -> x.mean(ALL + 2 * DAY - 1999, 2000));
        dueRefused("mean over the end, of too many", ARGUMENT, x -> x.mean(ALL + 2 * DAY - 1999, 2001));
    }

    private static void extreme() {
        due("extremes of the furnished day", () -> furnished().extremes(1), EXTREMES[2]);
        for (int day : DAYS) {
            for (int k : EXTREMES) {
                for (int what : new int[] {0, -1, 3}) {
                    dueIfRefused("extreme(" + day + ", " + k + ", " + what + ")",
                            indexFirst(day != 1 || k != 0, what != 0), x -> x.extreme(day, k, what));
                }
            }
        }
    }

    private static void lineAndSign() {
        due("line of the furnished day", () -> furnished().line(1, 0), SIGNS[2]);
        for (int day : DAYS) {
            for (int k : EXTREMES) {
                String refusal = indexFirst(day != 1 || k != 0, false);
                dueIfRefused("line(" + day + ", " + k + ")", refusal, x -> x.line(day, k));
                for (int j : SIGNS) {
                    dueIfRefused("sign(" + day + ", " + k + ", " + j + ")",
                            j == 0 ? refusal : INDEX, x -> x.sign(day, k, j));
                }
            }
        }
    }

    private static void above() {
        for (int minute : MINUTES) {
            for (int v : new int[] {0, LEAST, MOST}) {
                for (int span : new int[] {1000, 0, 1001}) {
                    dueIfRefused("above(" + minute + ", " + v + ", " + span + ")",
                            argumentFirst(span != 1000, minute != 1000), x -> x.above(minute, v, span));
                }
            }
        }
    }
}
