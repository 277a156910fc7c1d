/** Each promise by itself: ordinary inputs, the edges that the document names, and wrong inputs. */
public final class PromisesTest extends Checks {
    public static void main(String[] args) {
        newObject();
        level();
        constituent();
        constituentRefused();
        node();
        nodeRefused();
        days();
        daysMoveWhatIsBehind();
        first();
        year();
        position();
        cosine();
        height();
        heightRoundsDown();
        mean();
        extremes();
        extremesOfRows();
        rowsAtMidnight();
        tremblingDay();
        extremesFollowChanges();
        extreme();
        line();
        linesOfSmallHeights();
        sign();
        above();
        aboveAtTheEdges();
        end();
    }

    // Promise 1

    private static void newObject() {
        TideTables x = new TideTables();
        for (int i = 0; i < 8; i++) {
            int c = i;
            due("new: position", () -> x.position(c, ALL - 1), 0);
        }
        due("new: height(0)", () -> x.height(0), 0);
        due("new: height of the last minute", () -> x.height(ALL - 1), 0);
        due("new: extremes(0)", () -> x.extremes(0), 0);
        due("new: first(10)", () -> x.first(10), ALL);
        due("new: level(0)", () -> x.level(0), 0);
    }

    // Promise 2

    private static void level() {
        TideTables x = new TideTables();
        due("level(1000000)", () -> x.level(1000000), 0);
        due("level(1000001)", () -> x.level(1000001), ARGUMENT);
        due("level(-1000001)", () -> x.level(-1000001), ARGUMENT);
        due("level(least)", () -> x.level(LEAST), ARGUMENT);
        due("level(most)", () -> x.level(MOST), ARGUMENT);
        due("height after refused levels", () -> x.height(7), 1000000);
        due("level(-1000000)", () -> x.level(-1000000), 1000000);
        due("height at the lowest level", () -> x.height(7), -1000000);
        due("level(3)", () -> x.level(3), -1000000);
        due("another object's level", () -> new TideTables().height(0), 0);
    }

    // Promise 3

    private static void constituent() {
        TideTables x = new TideTables();
        due("node(2, 0, 32768, 5)", () -> x.node(2, 0, 32768, 5), NOTHING);
        due("constituent(2, ..)", () -> x.constituent(2, 100000, 10, TURN - 7), NOTHING);
        due("the shift stays", () -> x.position(2, 0), TURN - 2);
        due("the factor stays", () -> x.height(0), 50000);
        due("constituent at the limits", () -> x.constituent(7, 0, (1L << 40) - 1, TURN - 1), NOTHING);
        due("its position at 1", () -> x.position(7, 1), (1L << 40) - 2);
        due("constituent(2, 0, 0, 0)", () -> x.constituent(2, 0, 0, 0), NOTHING);
        due("position(2, 9)", () -> x.position(2, 9), 5);
        due("height(0) without amplitudes", () -> x.height(0), 0);
    }

    private static void constituentRefused() {
        TideTables x = new TideTables();
        x.constituent(0, 10, 20, 30);
        x.constituent(7, 10, 20, 30);
        due("constituent(-1)", () -> x.constituent(-1, 1, 1, 1), INDEX);
        due("constituent(8)", () -> x.constituent(8, 1, 1, 1), INDEX);
        due("constituent(8) with all wrong", () -> x.constituent(8, -1, -1, -1), INDEX);
        due("constituent(least)", () -> x.constituent(LEAST, 1, 1, 1), INDEX);
        due("constituent(most)", () -> x.constituent(MOST, 1, 1, 1), INDEX);
        for (int amplitude : new int[] {-1, 100001, LEAST, MOST}) {
            due("amplitude " + amplitude, () -> x.constituent(0, amplitude, 1, 1), ARGUMENT);
        }
        for (long speed : new long[] {-1, 1L << 40, Long.MIN_VALUE, Long.MAX_VALUE}) {
            due("speed " + speed, () -> x.constituent(0, 1, speed, 1), ARGUMENT);
        }
        for (long phase : new long[] {-1, TURN, Long.MIN_VALUE, Long.MAX_VALUE}) {
            due("phase " + phase, () -> x.constituent(0, 1, 1, phase), ARGUMENT);
        }
        due("nothing changed: position", () -> x.position(0, 2), 70);
        due("nothing changed: height", () -> x.height(0), 20);
    }

    // Promise 4

    private static void node() {
        TideTables x = new TideTables();
        x.constituent(1, 100000, 0, 0);
        due("factor at first", () -> x.height(0), 100000);
        due("node(1, 0, 81920, 0)", () -> x.node(1, 0, 81920, 0), NOTHING);
        due("height in its year", () -> x.height(YEAR - 1), 125000);
        due("height in the next year", () -> x.height(YEAR), 100000);
        due("node(1, 9, 0, TURN - 1)", () -> x.node(1, 9, 0, TURN - 1), NOTHING);
        due("height with factor 0", () -> x.height(ALL - 1), 0);
        due("position in year 9", () -> x.position(1, 9 * YEAR), TURN - 1);
        due("position in year 8", () -> x.position(1, 9 * YEAR - 1), 0);
        due("position of another", () -> x.position(2, 9 * YEAR), 0);
        due("node set again", () -> x.node(1, 9, 65536, TURN / 2), NOTHING);
        due("height half a turn on", () -> x.height(9 * YEAR), -100000);
    }

    private static void nodeRefused() {
        TideTables x = new TideTables();
        x.constituent(0, 100, 0, 0);
        for (int i : new int[] {-1, 8, LEAST, MOST}) {
            due("node of constituent " + i, () -> x.node(i, 0, 1, 1), INDEX);
            due("node with all wrong", () -> x.node(i, 0, -1, -1), INDEX);
        }
        for (int year : new int[] {-1, 10, LEAST, MOST}) {
            due("node of year " + year, () -> x.node(0, year, 1, 1), INDEX);
            due("node with all wrong", () -> x.node(0, year, 81921, TURN), INDEX);
        }
        for (int factor : new int[] {-1, 81921, LEAST, MOST}) {
            due("factor " + factor, () -> x.node(0, 0, factor, 1), ARGUMENT);
        }
        for (long shift : new long[] {-1, TURN, Long.MIN_VALUE, Long.MAX_VALUE}) {
            due("shift " + shift, () -> x.node(0, 0, 1, shift), ARGUMENT);
        }
        due("nothing changed: position", () -> x.position(0, 0), 0);
        due("nothing changed: height", () -> x.height(0), 100);
    }

    // Promise 5

    private static void days() {
        TideTables x = new TideTables();
        due("days(4, 366)", () -> x.days(4, 366), 365);
        due("days(4, 366) again", () -> x.days(4, 366), 366);
        due("days(9, 366)", () -> x.days(9, 366), 365);
        due("days(0, 365)", () -> x.days(0, 365), 365);
        for (int year : new int[] {-1, 10, LEAST, MOST}) {
            due("days of year " + year, () -> x.days(year, 366), INDEX);
            due("days with all wrong", () -> x.days(year, 364), INDEX);
        }
        for (int n : new int[] {364, 367, 0, -365, LEAST, MOST}) {
            due("days(3, " + n + ")", () -> x.days(3, n), ARGUMENT);
        }
        due("all minutes", () -> x.first(10), ALL + 2 * 1440);
        due("days(4, 365)", () -> x.days(4, 365), 366);
        due("all minutes then", () -> x.first(10), ALL + 1440);
    }

    private static void daysMoveWhatIsBehind() {
        TideTables x = new TideTables();
        x.constituent(0, 1000, 0, 0);
        x.node(0, 3, 65536, TURN / 2);
        due("height at the first minute of year 3", () -> x.height(3 * YEAR), -1000);
        due("days(2, 366)", () -> x.days(2, 366), 365);
        due("year 2 goes on", () -> x.height(3 * YEAR), 1000);
        due("year 3 begins later", () -> x.height(3 * YEAR + 1440), -1000);
        due("year 4 too", () -> x.height(4 * YEAR + 1439), -1000);
        due("year 4 begins", () -> x.height(4 * YEAR + 1440), 1000);
        due("first(2) stays", () -> x.first(2), 2 * YEAR);
        due("first(3) moves", () -> x.first(3), 3 * YEAR + 1440);
        due("a day more", () -> x.extremes(3650), 0);
        due("no second day more", () -> x.extremes(3651), INDEX);
        for (int year = 0; year < 10; year++) {
            x.days(year, 366);
        }
        due("ten leap years", () -> x.first(10), 3660 * 1440);
        due("their last day", () -> x.extremes(3659), 0);
        due("no day behind it", () -> x.extremes(3660), INDEX);
    }

    // Promises 6 and 7

    private static void first() {
        TideTables x = new TideTables();
        for (int year = 0; year <= 10; year++) {
            int y = year;
            due("first(" + y + ")", () -> x.first(y), y * YEAR);
        }
        for (int year : new int[] {-1, 11, LEAST, MOST}) {
            due("first(" + year + ")", () -> x.first(year), INDEX);
        }
        x.days(0, 366);
        x.days(5, 366);
        due("first(0) stays", () -> x.first(0), 0);
        due("first(5)", () -> x.first(5), 5 * YEAR + 1440);
        due("first(6)", () -> x.first(6), 6 * YEAR + 2880);
        due("first(10)", () -> x.first(10), ALL + 2880);
    }

    private static void year() {
        TideTables x = new TideTables();
        for (int year = 0; year < 10; year++) {
            int y = year;
            due("year of a first minute", () -> x.year(y * YEAR), y);
            due("year of a last minute", () -> x.year(y * YEAR + YEAR - 1), y);
        }
        for (int minute : new int[] {-1, ALL, LEAST, MOST}) {
            due("year(" + minute + ")", () -> x.year(minute), INDEX);
        }
        x.days(1, 366);
        due("year with a leap day", () -> x.year(2 * YEAR), 1);
        due("year behind it", () -> x.year(2 * YEAR + 1440), 2);
        due("year of a new last minute", () -> x.year(ALL + 1439), 9);
        due("no such minute", () -> x.year(ALL + 1440), INDEX);
    }

    // Promise 8

    private static void position() {
        TideTables x = new TideTables();
        x.constituent(5, 0, (1L << 40) - 1, TURN - 1);
        x.node(5, 9, 0, TURN - 1);
        due("position(5, 0)", () -> x.position(5, 0), TURN - 1);
        due("position(5, 1)", () -> x.position(5, 1), (1L << 40) - 2);
        due("position(5, 256)", () -> x.position(5, 256), TURN - 257);
        for (int year = 0; year < 10; year++) {
            x.days(year, 366);
        }
        // 5270399 (2^40 - 1) - 2 = 5270399 2^40 - 5270401, and 5270399 modulo 2^8 is 127.
        due("the last minute of all", () -> x.position(5, 5270399), 127 * (1L << 40) - 5270401);
        due("behind it", () -> x.position(5, 5270400), INDEX);
        for (int i : new int[] {-1, 8, LEAST, MOST}) {
            due("position of constituent " + i, () -> x.position(i, 0), INDEX);
        }
        for (int minute : new int[] {-1, LEAST, MOST}) {
            due("position at " + minute, () -> x.position(5, minute), INDEX);
        }
    }

    // Promise 9

    private static void cosine() {
        TideTables x = new TideTables();
        due("cosine(0)", () -> x.cosine(0), 1 << 30);
        due("cosine(65535)", () -> x.cosine(65535), 1 << 30);
        due("cosine of an eighth", () -> x.cosine(TURN / 8), 759250050);
        due("cosine of three eighths", () -> x.cosine(TURN / 8 * 3), -759250050);
        due("cosine of five eighths", () -> x.cosine(TURN / 8 * 5), -759250050);
        due("cosine of seven eighths", () -> x.cosine(TURN / 8 * 7), 759250050);
        due("cosine before a quarter", () -> x.cosine(QUARTER - 1), 2);
        due("cosine of a quarter", () -> x.cosine(QUARTER), 0);
        due("cosine just behind a quarter", () -> x.cosine(QUARTER + 65535), 0);
        due("cosine behind a quarter", () -> x.cosine(QUARTER + 65536), -2);
        due("cosine of a half", () -> x.cosine(2 * QUARTER), -(1 << 30));
        due("cosine of three quarters", () -> x.cosine(3 * QUARTER), 0);
        due("cosine of the last", () -> x.cosine(TURN - 1), 1 << 30);
        for (long wrong : new long[] {-1, TURN, Long.MIN_VALUE, Long.MAX_VALUE}) {
            due("cosine(" + wrong + ")", () -> x.cosine(wrong), ARGUMENT);
        }
    }

    // Promise 10

    private static void height() {
        TideTables x = new TideTables();
        x.level(1000000);
        for (int i = 0; i < 8; i++) {
            x.constituent(i, 100000, 0, 0);
            x.node(i, 0, 81920, 0);
            x.node(i, 1, 81920, TURN / 2);
        }
        due("the highest height", () -> x.height(0), 2000000);
        due("as much down", () -> x.height(YEAR), 0);
        due("by plain factors", () -> x.height(2 * YEAR), 1800000);
        x.level(-1000000);
        due("the lowest height", () -> x.height(YEAR), -2000000);
        for (int minute : new int[] {-1, ALL, LEAST, MOST}) {
            due("height(" + minute + ")", () -> x.height(minute), INDEX);
        }
        x.days(9, 366);
        due("height of a new last minute", () -> x.height(ALL + 1439), -200000);
    }

    private static void heightRoundsDown() {
        TideTables x = new TideTables();
        x.constituent(0, 1, 0, 0);
        x.node(0, 0, 32768, 0);
        due("a half", () -> x.height(0), 1);
        x.node(0, 0, 32767, 0);
        due("less than a half", () -> x.height(0), 0);
        x.node(0, 0, 32768, TURN / 2);
        due("minus a half", () -> x.height(0), 0);
        x.node(0, 0, 32769, TURN / 2);
        due("less than minus a half", () -> x.height(0), -1);
        // -2 / 65536, rounded down, is -1: the half then falls just short.
        x.node(0, 0, 32768, 0);
        x.constituent(1, 1, 0, QUARTER + 65536);
        x.node(1, 0, 1, 0);
        due("each is rounded down", () -> x.height(0), 0);
        // Six times 65400 / 65536, rounded down each, is nothing; their sum would be 5.
        for (int i = 2; i < 8; i++) {
            x.constituent(i, 100, 0, QUARTER - 1);
            x.node(i, 0, 327, 0);
        }
        due("not the sum is rounded", () -> x.height(0), 0);
    }

    // Promise 11

    private static void mean() {
        TideTables x = new TideTables();
        x.constituent(0, 1000, 0, 0);
        x.node(0, 1, 65536, TURN / 2);
        due("mean from the first minute", () -> x.mean(0, 1), 1000);
        due("mean of one", () -> x.mean(YEAR - 1, 1), 1000);
        due("mean of two", () -> x.mean(YEAR - 1, 2), 0);
        due("mean of three", () -> x.mean(YEAR - 1, 3), -334);
        due("mean of three, above 0", () -> x.mean(YEAR - 2, 3), 333);
        due("mean of 2000", () -> x.mean(YEAR - 1000, 2000), 0);
        due("the last one", () -> x.mean(ALL - 1, 1), 1000);
        due("the last 2000", () -> x.mean(ALL - 2000, 2000), 1000);
        due("one too many", () -> x.mean(ALL - 1999, 2000), INDEX);
        due("two from the last", () -> x.mean(ALL - 1, 2), INDEX);
        for (int minute : new int[] {-1, ALL, LEAST, MOST}) {
            due("mean(" + minute + ", 1)", () -> x.mean(minute, 1), INDEX);
            due("mean(" + minute + ", 2000)", () -> x.mean(minute, 2000), INDEX);
        }
        for (int n : new int[] {0, -1, 2001, LEAST, MOST}) {
            due("mean(0, " + n + ")", () -> x.mean(0, n), ARGUMENT);
            due("mean(-1, " + n + ")", () -> x.mean(-1, n), ARGUMENT);
        }
    }

    // Promise 12

    private static void extremes() {
        TideTables x = new TideTables();
        x.constituent(3, 100000, SPEED_512, 0);
        // High waters at 0, 512, 1024, 1536 ..; that of minute 0 has none before it.
        due("extremes(0)", () -> x.extremes(0), 5);
        due("extremes(1)", () -> x.extremes(1), 6);
        due("extremes of the last day", () -> x.extremes(3649), 6);
        for (int day : new int[] {-1, 3650, LEAST, MOST, MOST / 1440 + 1}) {
            due("extremes(" + day + ")", () -> x.extremes(day), INDEX);
        }
        due("extremes(0) again", () -> x.extremes(0), 5);
    }

    // Heights 1, 0, -1, 0, 1 ..: rows of 85 and more minutes, in which 0 is neither high nor low.
    private static void extremesOfRows() {
        TideTables x = new TideTables();
        x.constituent(0, 1, SPEED_512, 0);
        int[] minutes = {171, 427, 683, 939, 1195};
        due("rows", () -> x.extremes(0), minutes.length);
        for (int k = 0; k < minutes.length; k++) {
            int n = k;
            due("row's minute " + n, () -> x.extreme(0, n, 0), minutes[n]);
            due("row's height " + n, () -> x.extreme(0, n, 1), n % 2 == 0 ? -1 : 1);
            due("row's kind " + n, () -> x.extreme(0, n, 2), n % 2);
        }
    }

    private static void rowsAtMidnight() {
        TideTables x = new TideTables();
        // High at minute 1440: its row, 1355 .. 1525, is cut by midnight.
        x.constituent(0, 1, SPEED_512, TURN - (1440 * SPEED_512) % TURN);
        due("the day before", () -> x.extremes(0), 5);
        due("its last", () -> x.extreme(0, 4, 0), 1099);
        due("the day behind", () -> x.extremes(1), 5);
        due("its first", () -> x.extreme(1, 0, 0), 1440 + 171);
        // High at minutes 1 and 2 alone is one; high at 0 and 1 is none.
        TideTables y = new TideTables();
        y.constituent(0, 100000, SPEED_512, TURN - SPEED_512 - SPEED_512 / 2);
        due("height(0)", () -> y.height(0) < y.height(1), true);
        due("height(1)", () -> y.height(1) == y.height(2), true);
        due("two minutes at the day's begin", () -> y.extreme(0, 0, 0), 1);
        y.constituent(0, 100000, SPEED_512, TURN - SPEED_512 / 2);
        due("the day's first two minutes", () -> y.extreme(0, 0, 2), 0);
        y.constituent(0, 100000, SPEED_512, TURN - (1438 * SPEED_512) % TURN);
        due("the last but one minute", () -> y.extreme(0, y.extremes(0) - 1, 0), 1438);
        y.constituent(0, 100000, SPEED_512, TURN - (1439 * SPEED_512) % TURN);
        due("the last minute", () -> y.extreme(0, y.extremes(0) - 1, 0), 1439 - 256);
    }

    // Two cosines that step by turns, one down and one up, with their sum at the edge of rounding:
    // the height trembles between 0 and 1, often with an extreme every minute.
    private static void tremblingDay() {
        TideTables x = new TideTables();
        x.constituent(0, 1, 32768, 33722727399424L);
        x.constituent(1, 1, 32768, 247752202158080L);
        x.constituent(2, 1, 0, 153515743117312L);
        due("extremes of a trembling day", () -> x.extremes(0), 1038);
        // Every fifth, so that the object is not used for more than 512 calls.
        for (int k = 0; k < 1038; k += 5) {
            int n = k;
            due("trembling: height of " + n, () -> x.extreme(0, n, 1), 1 - n % 2);
            due("trembling: kind of " + n, () -> x.extreme(0, n, 2), 1 - n % 2);
        }
        due("trembling: a minute", () -> x.extreme(0, 719, 0), 1000);
        due("trembling: the next", () -> x.extreme(0, 720, 0), 1001);
        due("trembling: no more", () -> x.extreme(0, 1038, 0), INDEX);
    }

    private static void extremesFollowChanges() {
        TideTables x = new TideTables();
        due("nothing turns", () -> x.extremes(365), 0);
        x.constituent(0, 100000, SPEED_512, 0);
        due("after constituent", () -> x.extreme(365, 0, 0), 365 * 1440 + 224);
        x.node(0, 1, 65536, SPEED_512 * 100);
        due("after node", () -> x.extreme(365, 0, 0), 365 * 1440 + 124);
        x.days(0, 366);
        due("after days", () -> x.extreme(365, 0, 0), 365 * 1440 + 224);
        x.level(-7);
        due("after level", () -> x.extreme(365, 0, 1), 100000 - 7);
        due("refused level", () -> x.level(MOST), ARGUMENT);
        due("after a refused level", () -> x.extreme(365, 0, 1), 100000 - 7);
        x.days(0, 365);
        due("after days again", () -> x.extreme(365, 0, 0), 365 * 1440 + 124);
        due("another day", () -> x.extreme(0, 0, 0), 256);
        due("and back", () -> x.extreme(365, 0, 0), 365 * 1440 + 124);
    }

    // Promise 13

    private static void extreme() {
        TideTables x = new TideTables();
        x.level(50);
        x.constituent(3, 100000, SPEED_512, 0);
        for (int k = 0; k < 5; k++) {
            int n = k;
            due("minute of " + n, () -> x.extreme(0, n, 0), 256 + n * 256);
            due("height of " + n, () -> x.extreme(0, n, 1), n % 2 == 0 ? -99950 : 100050);
            due("kind of " + n, () -> x.extreme(0, n, 2), n % 2);
        }
        due("minute in day 1", () -> x.extreme(1, 0, 0), 1536);
        for (int k : new int[] {-1, 5, LEAST, MOST}) {
            due("extreme(0, " + k + ", 0)", () -> x.extreme(0, k, 0), INDEX);
            due("extreme(0, " + k + ", 3)", () -> x.extreme(0, k, 3), INDEX);
        }
        for (int day : new int[] {-1, 3650, LEAST, MOST}) {
            due("extreme(" + day + ", 0, 0)", () -> x.extreme(day, 0, 0), INDEX);
            due("extreme(" + day + ", 0, -1)", () -> x.extreme(day, 0, -1), INDEX);
        }
        for (int what : new int[] {-1, 3, LEAST, MOST}) {
            due("extreme(0, 0, " + what + ")", () -> x.extreme(0, 0, what), ARGUMENT);
        }
    }

    // Promises 14 and 15

    private static void line() {
        TideTables x = new TideTables();
        x.constituent(0, 100000, SPEED_512, 0);
        dueLine(x, 0, 0, "0 000 04:16 LOW -10.0000");
        dueLine(x, 0, 1, "0 000 08:32 HIGH 10.0000");
        dueLine(x, 1, 0, "0 001 01:36 HIGH 10.0000");
        dueLine(x, 364, 0, "0 364 02:08 HIGH 10.0000");
        dueLine(x, 365, 0, "1 000 03:44 HIGH 10.0000");
        dueLine(x, 3649, 4, "9 364 18:40 HIGH 10.0000");
        x.days(0, 366);
        dueLine(x, 365, 0, "0 365 03:44 HIGH 10.0000");
        dueLine(x, 366, 0, "1 000 01:04 LOW -10.0000");
        x.level(1000000);
        dueLine(x, 0, 1, "0 000 08:32 HIGH 110.0000");
        dueLine(x, 0, 4, "0 000 21:20 LOW 90.0000");
        for (int k : new int[] {-1, 5, LEAST, MOST}) {
            due("line(0, " + k + ")", () -> x.line(0, k), INDEX);
        }
        for (int day : new int[] {-1, 3651, LEAST, MOST}) {
            due("line(" + day + ", 0)", () -> x.line(day, 0), INDEX);
        }
        due("line without extremes", () -> new TideTables().line(0, 0), INDEX);
    }

    private static void linesOfSmallHeights() {
        TideTables x = new TideTables();
        x.constituent(0, 1, SPEED_512, 0);
        dueLine(x, 0, 0, "0 000 02:51 LOW -0.0001");
        dueLine(x, 0, 1, "0 000 07:07 HIGH 0.0001");
        x.level(-1);
        dueLine(x, 0, 1, "0 000 07:07 HIGH 0.0000");
        x.level(-10000);
        dueLine(x, 0, 0, "0 000 02:51 LOW -1.0001");
        dueLine(x, 0, 1, "0 000 07:07 HIGH -0.9999");
        x.level(9999);
        dueLine(x, 0, 0, "0 000 02:51 LOW 0.9998");
        dueLine(x, 0, 1, "0 000 07:07 HIGH 1.0000");
        x.level(-1000000);
        dueLine(x, 0, 0, "0 000 02:51 LOW -100.0001");
    }

    private static void sign() {
        TideTables x = new TideTables();
        x.constituent(0, 100000, SPEED_512, 0);
        due("sign(0, 0, 0)", () -> x.sign(0, 0, 0), 48);
        due("sign(0, 0, 1)", () -> x.sign(0, 0, 1), 32);
        due("sign(0, 0, 8)", () -> x.sign(0, 0, 8), 58);
        due("sign(0, 0, 16)", () -> x.sign(0, 0, 16), 45);
        due("sign(0, 0, 23)", () -> x.sign(0, 0, 23), 48);
        for (int wrong : new int[] {-1, 5, LEAST, MOST}) {
            due("sign(0, " + wrong + ", 0)", () -> x.sign(0, wrong, 0), INDEX);
        }
        for (int wrong : new int[] {-1, 3650, LEAST, MOST}) {
            due("sign(" + wrong + ", 0, 0)", () -> x.sign(wrong, 0, 0), INDEX);
        }
        for (int wrong : new int[] {-1, 24, LEAST, MOST}) {
            due("sign(0, 0, " + wrong + ")", () -> x.sign(0, 0, wrong), INDEX);
        }
    }

    // Promise 16

    private static void above() {
        TideTables x = new TideTables();
        // Heights of 1 at 427 .. 597 and every 512 minutes, of at least 0 at 342 .. 682.
        x.constituent(0, 1, SPEED_512, 0);
        due("above(0, 1, 1)", () -> x.above(0, 1, 1), 0);
        due("above(0, 1, 86)", () -> x.above(0, 1, 86), 0);
        due("above(0, 1, 87)", () -> x.above(0, 1, 87), 427);
        due("above(427, 1, 171)", () -> x.above(427, 1, 171), 427);
        due("above(428, 1, 171)", () -> x.above(428, 1, 171), 939);
        due("above(0, 1, 172)", () -> x.above(0, 1, 172), TideTables.NONE);
        due("above(171, 0, 341)", () -> x.above(171, 0, 341), 342);
        due("above(100, -1, 1000)", () -> x.above(100, -1, 1000), 100);
        due("above(100, least, 1000)", () -> x.above(100, LEAST, 1000), 100);
        due("above(0, 2, 1)", () -> x.above(0, 2, 1), TideTables.NONE);
        due("above(0, most, 1)", () -> x.above(0, MOST, 1), TideTables.NONE);
        for (int span : new int[] {0, -1, 1001, LEAST, MOST}) {
            due("above(0, 0, " + span + ")", () -> x.above(0, 0, span), ARGUMENT);
            due("above(-1, 0, " + span + ")", () -> x.above(-1, 0, span), ARGUMENT);
        }
        for (int minute : new int[] {-1, ALL, LEAST, MOST}) {
            due("above(" + minute + ", 0, 1)", () -> x.above(minute, 0, 1), INDEX);
        }
    }

    private static void aboveAtTheEdges() {
        TideTables x = new TideTables();
        x.constituent(0, 1, 0, TURN / 2);
        x.node(0, 1, 65536, TURN / 2);
        // -1 up to the end of year 0, then 1 for a year.
        due("the last of the 3000", () -> x.above(YEAR - 2999, 1, 1), YEAR);
        due("one behind the 3000", () -> x.above(YEAR - 3000, 1, 1), TideTables.NONE);
        due("a span behind the 3000", () -> x.above(YEAR - 2999, 1, 1000), YEAR);
        due("too far for a span", () -> x.above(YEAR - 3000, 1, 1000), TideTables.NONE);
        due("a year's last span", () -> x.above(2 * YEAR - 1000, 1, 1000), 2 * YEAR - 1000);
        due("one minute short", () -> x.above(2 * YEAR - 999, 1, 1000), TideTables.NONE);
        due("the last minute", () -> x.above(ALL - 1, -1, 1), ALL - 1);
        due("want of minutes", () -> x.above(ALL - 1, -1, 2), TideTables.NONE);
        due("the last 1000", () -> x.above(ALL - 1000, -1, 1000), ALL - 1000);
        due("want of one minute", () -> x.above(ALL - 999, -1, 1000), TideTables.NONE);
        x.days(4, 366);
        due("a day more", () -> x.above(ALL - 999, -1, 1000), ALL - 999);
    }
}
