/**
 * The boundary cases that the document names under "What it is" and "Terms", sentence by sentence:
 * at the boundary and one beyond it. The sentence stands above its test.
 */
public final class TermsTest extends Checks {
    public static void main(String[] args) {
        lastOf512Calls();
        years();
        daysOfAYear();
        daysAtFirst();
        numbersOfDays();
        numbersOfMinutes();
        numbersBehindLeapYears();
        constituents();
        amplitude();
        speed();
        phase();
        allZeroAtFirst();
        factor();
        factorsAtFirst();
        shift();
        positionOfPhaseAndShift();
        positionOfPhaseAndSpeed();
        positionOfManyTurns();
        positionTakesTheShiftOfItsYear();
        cosineByQuarters();
        cosineNearItsTop();
        cosineRoundsThePositionDown();
        cosineRoundsQuotientsDown();
        heightRoundsTheSumDown();
        heightRoundsEachDown();
        heightTakesTheFactorOfItsYear();
        highestAndLowestHeight();
        level();
        fullDay();
        emptyDay();
        longestRow();
        rowThatBeginsTheDay();
        rowThatEndsTheDay();
        rowBetweenHigherAndLower();
        rowCutByMidnight();
        minuteOfARow();
        lineYears();
        lineDays();
        lineHoursAndMinutes();
        lineHeightsBelowOne();
        lineHeightsOfTenThousands();
        lineHeightsBelowZero();
        linesOfTheHighestAndLowest();
        end();
    }

    // "An object is used for at most 512 calls after it has been made"

    private static void lastOf512Calls() {
        TideTables x = new TideTables();
        for (int call = 1; call < 511; call++) {
            int v = call;
            due("level of call " + call, () -> x.level(v), v - 1);
        }
        due("the last but one of 512 calls", () -> x.level(1000001), ARGUMENT);
        due("the last of 512 calls", () -> x.height(ALL - 1), 510);
    }

    // "YEARS are 0 .. 9"

    private static void years() {
        TideTables x = new TideTables();
        dueBounds("node of year", 0, 9, FAR_INTS, INDEX, v -> x.node(0, (int) v, 0, 0));
        dueBounds("days of year", 0, 9, FAR_INTS, INDEX, v -> x.days((int) v, 366));
        due("year of the first minute", () -> x.year(0), 0);
        due("year of the last minute", () -> x.year(x.first(10) - 1), 9);
    }

    // "each of 365 DAYS (as at first) or 366"

    private static void daysOfAYear() {
        TideTables x = new TideTables();
        for (int y : new int[] {0, 5, 9}) {
            dueBounds("days of year " + y, 365, 366, FAR_INTS, ARGUMENT, v -> x.days(y, (int) v));
        }
        for (int wrong : new int[] {0, 1, -1, -365, -366, 365 * 1440}) {
            due("days(0, " + wrong + ")", () -> x.days(0, wrong), ARGUMENT);
        }
    }

    private static void daysAtFirst() {
        TideTables x = new TideTables();
        for (int year = 0; year < 10; year++) {
            int y = year;
            due("days of year " + y + " at first", () -> x.days(y, 366), 365);
        }
        for (int year = 0; year < 10; year++) {
            int y = year;
            due("days of year " + y + " then", () -> x.days(y, 365), 366);
        }
    }

    // "DAYS and MINUTES (1440 a day) are numbered from 0 through all years, year after year."

    private static void numbersOfDays() {
        TideTables x = new TideTables();
        dueBounds("extremes of day", 0, 3649, FAR_INTS, INDEX, v -> x.extremes((int) v));
        // These times 1440 wrap around to minutes that there are.
        for (int wrong : new int[] {-1 << 27, 1 << 27, (1 << 27) + 1}) {
            due("extremes(" + wrong + ")", () -> x.extremes(wrong), INDEX);
        }
    }

    private static void numbersOfMinutes() {
        TideTables x = new TideTables();
        dueBounds("year of minute", 0, ALL - 1, FAR_INTS, INDEX, v -> x.year((int) v));
        dueBounds("height at minute", 0, ALL - 1, FAR_INTS, INDEX, v -> x.height((int) v));
        dueBounds("position at minute", 0, ALL - 1, FAR_INTS, INDEX, v -> x.position(7, (int) v));
        dueBounds("mean at minute", 0, ALL - 1, FAR_INTS, INDEX, v -> x.mean((int) v, 1));
        dueBounds("above from minute", 0, ALL - 1, FAR_INTS, INDEX, v -> x.above((int) v, 0, 1));
    }

    private static void numbersBehindLeapYears() {
        TideTables x = new TideTables();
        for (int year = 0; year < 10; year++) {
            x.days(year, 366);
        }
        dueBounds("extremes of day", 0, 3659, FAR_INTS, INDEX, v -> x.extremes((int) v));
        dueBounds("year of minute", 0, 3660 * DAY - 1, FAR_INTS, INDEX, v -> x.year((int) v));
        dueBounds("height at minute", 0, 3660 * DAY - 1, FAR_INTS, INDEX, v -> x.height((int) v));
        for (int year = 1; year < 10; year++) {
            int y = year;
            due("the last minute before year " + y, () -> x.year(y * 366 * DAY - 1), y - 1);
            due("the first minute of year " + y, () -> x.year(y * 366 * DAY), y);
        }
    }

    // "CONSTITUENTS are 0 .. 7"

    private static void constituents() {
        TideTables x = new TideTables();
        dueBounds("constituent", 0, 7, FAR_INTS, INDEX, v -> x.constituent((int) v, 0, 0, 0));
        dueBounds("node of constituent", 0, 7, FAR_INTS, INDEX, v -> x.node((int) v, 0, 0, 0));
        dueBounds("position of constituent", 0, 7, FAR_INTS, INDEX, v -> x.position((int) v, 0));
    }

    // "each with an AMPLITUDE 0 .. 100000"

    private static void amplitude() {
        TideTables x = new TideTables();
        dueBounds("amplitude", 0, 100000, FAR_INTS, ARGUMENT, v -> x.constituent(6, (int) v, 0, 0));
        due("height by the greatest amplitude", () -> x.height(0), 100000);
        due("the least amplitude", () -> x.constituent(6, 0, 0, 0), NOTHING);
        due("height by the least amplitude", () -> x.height(0), 0);
    }

    // "a SPEED 0 .. 2^40 - 1"

    private static void speed() {
        TideTables x = new TideTables();
        dueBounds("speed", 0, 1099511627775L, FAR_LONGS, ARGUMENT, v -> x.constituent(6, 1, v, 0));
        due("position by the greatest speed", () -> x.position(6, 1), 1099511627775L);
        due("the least speed", () -> x.constituent(6, 1, 0, 0), NOTHING);
        due("position by the least speed", () -> x.position(6, ALL - 1), 0);
    }

    // "and a PHASE 0 .. 2^48 - 1"

    private static void phase() {
        TideTables x = new TideTables();
        dueBounds("phase", 0, 281474976710655L, FAR_LONGS, ARGUMENT, v -> x.constituent(6, 1, 0, v));
        due("position by the greatest phase", () -> x.position(6, ALL - 1), 281474976710655L);
        due("the least phase", () -> x.constituent(6, 1, 0, 0), NOTHING);
        due("position by the least phase", () -> x.position(6, ALL - 1), 0);
    }

    // "(all 0 at first)", "and a SHIFT .. (0 at first)"

    private static void allZeroAtFirst() {
        TideTables x = new TideTables();
        for (int i = 0; i < 8; i++) {
            for (int year = 0; year < 10; year++) {
                int c = i;
                int last = year * YEAR + YEAR - 1;
                due("position(" + c + ", " + last + ") at first", () -> x.position(c, last), 0);
            }
        }
        // Any amplitude would be seen here: all cosines are 1 and all factors too.
        for (int year = 0; year < 10; year++) {
            int last = year * YEAR + YEAR - 1;
            due("height(" + last + ") at first", () -> x.height(last), 0);
        }
    }

    // "and for each year a FACTOR 0 .. 81920"

    private static void factor() {
        TideTables x = new TideTables();
        x.constituent(6, 100000, 0, 0);
        for (int y : new int[] {0, 9}) {
            dueBounds("factor of year " + y, 0, 81920, FAR_INTS, ARGUMENT, v -> x.node(6, y, (int) v, 0));
            due("height by the greatest factor", () -> x.height(y * YEAR), 125000);
            due("one less", () -> x.node(6, y, 81919, 0), NOTHING);
            // 100000 * 81919 / 65536 is 124998.47 ..
            due("height by one less", () -> x.height(y * YEAR), 124998);
            due("the least factor", () -> x.node(6, y, 0, 0), NOTHING);
            due("height by the least factor", () -> x.height(y * YEAR), 0);
        }
    }

    // "(65536 at first)"

    private static void factorsAtFirst() {
        TideTables x = new TideTables();
        for (int i = 0; i < 8; i++) {
            int c = i;
            x.constituent(c, 100000, 0, 0);
            for (int year = 0; year < 10; year++) {
                int minute = year * YEAR;
                due("height(" + minute + ") of " + (c + 1), () -> x.height(minute), (c + 1) * 100000);
            }
        }
    }

    // "and a SHIFT 0 .. 2^48 - 1"

    private static void shift() {
        TideTables x = new TideTables();
        for (int y : new int[] {0, 9}) {
            dueBounds("shift of year " + y, 0, 281474976710655L, FAR_LONGS, ARGUMENT, v -> x.node(6, y, 1, v));
            due("position by the greatest shift", () -> x.position(6, y * YEAR), 281474976710655L);
            due("the least shift", () -> x.node(6, y, 1, 0), NOTHING);
            due("position by the least shift", () -> x.position(6, y * YEAR), 0);
        }
    }

    // "THE POSITION .. is its phase, plus its speed times the minute, plus its shift of the minute's year,
    // modulo 2^48."

    private static void duePosition(TideTables x, int minute, long want) {
        due("position(0, " + minute + ")", () -> x.position(0, minute), want);
    }

    private static void positionOfPhaseAndShift() {
        TideTables x = new TideTables();
        x.constituent(0, 0, 0, TURN - 2);
        long[][] shiftAndPosition = {{0, TURN - 2}, {1, TURN - 1}, {2, 0}, {3, 1}, {TURN - 1, TURN - 3}};
        for (long[] row : shiftAndPosition) {
            x.node(0, 0, 0, row[0]);
            duePosition(x, 0, row[1]);
        }
    }

    private static void positionOfPhaseAndSpeed() {
        TideTables x = new TideTables();
        x.constituent(0, 0, 1, TURN - 3);
        duePosition(x, 0, TURN - 3);
        duePosition(x, 2, TURN - 1);
        duePosition(x, 3, 0);
        duePosition(x, 4, 1);
        x.constituent(0, 0, SPEED_512, 0);
        duePosition(x, 511, TURN - SPEED_512);
        duePosition(x, 512, 0);
        duePosition(x, 513, SPEED_512);
        x.constituent(0, 0, (1L << 40) - 1, 0);
        duePosition(x, 256, TURN - 256);
        duePosition(x, 257, (1L << 40) - 257);
    }

    private static void positionOfManyTurns() {
        TideTables x = new TideTables();
        for (int year = 0; year < 10; year++) {
            x.days(year, 366);
        }
        x.constituent(0, 0, (1L << 40) - 1, 0);
        // 5270399 2^40 - 5270399, and 5270399 modulo 2^8 is 127.
        duePosition(x, 5270399, 127 * (1L << 40) - 5270399);
        x.constituent(0, 0, (1L << 40) - 1, TURN - 1);
        duePosition(x, 5270399, 127 * (1L << 40) - 5270400);
        x.node(0, 9, 0, TURN - 1);
        duePosition(x, 5270399, 127 * (1L << 40) - 5270401);
        // Speeds and minutes whose product passes 2^31 and 2^32.
        x.constituent(0, 0, 1L << 20, 0);
        duePosition(x, 2048, 1L << 31);
        duePosition(x, 4096, 1L << 32);
    }

    private static void positionTakesTheShiftOfItsYear() {
        TideTables x = new TideTables();
        for (int year = 0; year < 10; year++) {
            x.node(0, year, 0, 100 + year);
        }
        for (int year = 0; year < 10; year++) {
            duePosition(x, year * YEAR, 100 + year);
            duePosition(x, year * YEAR + YEAR - 1, 100 + year);
        }
        x.days(4, 366);
        duePosition(x, 5 * YEAR, 104);
        duePosition(x, 5 * YEAR + DAY - 1, 104);
        duePosition(x, 5 * YEAR + DAY, 105);
    }

    // "let q be x / 2^46 (0 .. 3), r be .. , but 2^30 - r when q is 1 or 3", "less than 0 by that much
    // when q is 1 or 2"

    private static void dueCosine(TideTables x, long position, int want) {
        due("cosine(" + position + ")", () -> x.cosine(position), want);
    }

    private static void cosineByQuarters() {
        TideTables x = new TideTables();
        int one = 1 << 30;
        // Around the begin of a quarter: the two steps before it, the quarter, the two behind it.
        int[][] around = {{one, one, one, one, one}, {4, 2, 0, -2, -4}, {-one, -one, -one, -one, -one}, {-4, -2, 0, 2, 4}};
        for (int quarter = 0; quarter < 4; quarter++) {
            for (int step = -2; step <= 2; step++) {
                long position = Math.floorMod(quarter * QUARTER + step * 65536L, TURN);
                dueCosine(x, position, around[quarter][step + 2]);
                dueCosine(x, position + 65535, around[quarter][step + 2]);
            }
        }
    }

    private static void cosineNearItsTop() {
        TideTables x = new TideTables();
        // r r / 2^30 is 0 up to r = 2^15 - 1, and 1 from 2^15 on.
        dueCosine(x, (1L << 31) - 1, 1 << 30);
        dueCosine(x, 1L << 31, (1 << 30) - 1);
        dueCosine(x, TURN / 2 - (1L << 31), 1 - (1 << 30));
        dueCosine(x, TURN / 2 - (1L << 31) + 65536, -(1 << 30));
        dueCosine(x, TURN / 2 + (1L << 31) - 1, -(1 << 30));
        dueCosine(x, TURN / 2 + (1L << 31), 1 - (1 << 30));
        dueCosine(x, TURN - (1L << 31), (1 << 30) - 1);
        dueCosine(x, TURN - (1L << 31) + 65536, 1 << 30);
    }

    // "(x / 2^16) modulo 2^30 (rounded down)"

    private static void cosineRoundsThePositionDown() {
        TideTables x = new TideTables();
        for (long low : new long[] {0, 1, 32767, 32768, 65535}) {
            dueCosine(x, QUARTER - 65536 + low, 2);
            dueCosine(x, QUARTER + low, 0);
            dueCosine(x, QUARTER + 65536 + low, -2);
            dueCosine(x, 3 * QUARTER - 65536 + low, -2);
            dueCosine(x, 3 * QUARTER + low, 0);
            dueCosine(x, 3 * QUARTER + 65536 + low, 2);
        }
    }

    // "(All quotients are rounded down.)"

    private static void cosineRoundsQuotientsDown() {
        TideTables x = new TideTables();
        // At each of these one quotient, rounded up or to the nearest, would give another answer:
        // that of r r, of 960477 s, of e s, of f s and of g s.
        long[][] positionAndCosine = {
            {2000000000L, 1073741824}, {19569000000000L, 972916326}, {12973000000000L, 1029032955},
            {3444000000000L, 1070570342}, {4000000000L, 1073741821}};
        for (long[] row : positionAndCosine) {
            dueCosine(x, row[0], (int) row[1]);
            // The same r in the third quarter, where it is less than 0 by just as much.
            dueCosine(x, row[0] + TURN / 2, (int) -row[1]);
        }
    }

    // "the sum .. plus 2^29; divided by 2^30 and rounded down"

    /** Constituents that add 2^29, less 1 for each of the last ones asked for. */
    private static TideTables half(boolean below, int less) {
        TideTables x = new TideTables();
        x.constituent(0, 1, 0, below ? TURN / 2 : 0);
        x.node(0, 0, 32768, 0);
        for (int i = 1; i <= less; i++) {
            // A cosine of -2, times 32768, is -1 exactly.
            x.constituent(i, 1, 0, QUARTER + 65536);
            x.node(i, 0, 32768, 0);
        }
        return x;
    }

    private static void heightRoundsTheSumDown() {
        due("height by 2^29", () -> half(false, 0).height(0), 1);
        due("height by 2^29 - 1", () -> half(false, 1).height(0), 0);
        due("height by -2^29", () -> half(true, 0).height(0), 0);
        due("height by -2^29 - 1", () -> half(true, 1).height(0), -1);
        TideTables x = half(false, 0);
        x.node(0, 0, 65536 + 16384, 0);
        due("height by 5 2^28", () -> x.height(0), 1);
        x.constituent(1, 1, 0, 0);
        x.node(1, 0, 16384, 0);
        due("height by 6 2^28", () -> x.height(0), 2);
        x.level(-2);
        due("and less the level", () -> x.height(0), 0);
    }

    // "amplitude times factor .. times cosine .., divided by 65536 and rounded down each"

    private static void dueHeightBesideAHalf(int factor, int ones, int want) {
        TideTables x = half(false, 1);
        x.node(1, 0, factor, 0);
        for (int i = 2; i < 2 + ones; i++) {
            // A cosine of 2, times 32768, is 1 exactly.
            x.constituent(i, 1, 0, QUARTER - 65536);
            x.node(i, 0, 32768, 0);
        }
        due("2^29, -2 times " + factor + ", and " + ones, () -> x.height(0), want);
    }

    private static void heightRoundsEachDown() {
        dueHeightBesideAHalf(0, 0, 1);
        // -2 / 65536 is -1 when rounded down, -65536 / 65536 is -1 too, -65538 / 65536 is -2.
        dueHeightBesideAHalf(1, 0, 0);
        dueHeightBesideAHalf(1, 1, 1);
        dueHeightBesideAHalf(32767, 1, 1);
        dueHeightBesideAHalf(32768, 1, 1);
        dueHeightBesideAHalf(32769, 1, 0);
        dueHeightBesideAHalf(32769, 2, 1);
        // 65534 / 65536 is nothing, six times too: the sum alone would have made up for -1.
        TideTables x = half(false, 1);
        for (int i = 2; i < 8; i++) {
            x.constituent(i, 1, 0, QUARTER - 65536);
            x.node(i, 0, 32767, 0);
        }
        due("six parts that are less than 1", () -> x.height(0), 0);
    }

    // "factor (of the minute's year)"

    private static void heightTakesTheFactorOfItsYear() {
        TideTables x = new TideTables();
        x.constituent(0, 65536, 0, 0);
        for (int year = 0; year < 10; year++) {
            x.node(0, year, 100 + year, 0);
        }
        for (int year = 0; year < 10; year++) {
            int y = year;
            due("height of year " + y, () -> x.height(y * YEAR), 100 + y);
            due("its last height", () -> x.height(y * YEAR + YEAR - 1), 100 + y);
        }
        x.days(4, 366);
        due("height in the leap day", () -> x.height(5 * YEAR + DAY - 1), 104);
        due("height behind the leap day", () -> x.height(5 * YEAR + DAY), 105);
    }

    /** All eight constituents at their greatest, high at the year's begin and low half a turn on. */
    private static TideTables highest(int level) {
        TideTables x = new TideTables();
        x.level(level);
        for (int i = 0; i < 8; i++) {
            x.constituent(i, 100000, SPEED_512, 0);
            x.node(i, 0, 81920, 0);
        }
        return x;
    }

    private static void highestAndLowestHeight() {
        due("the highest height", () -> highest(1000000).height(0), 2000000);
        due("low water then", () -> highest(1000000).height(256), 0);
        due("the lowest height", () -> highest(-1000000).height(256), -2000000);
        due("high water then", () -> highest(-1000000).height(0), 0);
    }

    // "plus the LEVEL (-1000000 .. 1000000, 0 at first)"

    private static void level() {
        TideTables x = new TideTables();
        due("level at first", () -> x.level(0), 0);
        dueBounds("level", -1000000, 1000000, FAR_INTS, ARGUMENT, v -> x.level((int) v));
        due("height at the highest level", () -> x.height(0), 1000000);
        due("level(-1000000)", () -> x.level(-1000000), 1000000);
        due("height at the lowest level", () -> x.height(0), -1000000);
    }

    // "AN EXTREME of a day: minutes one after the other of that day, all of one height, with a minute
    // before them and one behind them in that day"; "They are numbered from 0 by their minutes."

    /**
     * Day 0 has heights 0, 1, 0, 1 .., so that extreme k is minute k + 1: two cosines step by turns,
     * one down and one up, and the rest of the sum is 1 less than what makes a height of 1.
     */
    private static TideTables full() {
        TideTables x = half(false, 1);
        x.constituent(2, 1, 32768, QUARTER - (1L << 30));
        x.constituent(3, 1, 32768, QUARTER - (1L << 30) + TURN / 2 + 32768);
        return x;
    }

    private static void fullDay() {
        TideTables x = full();
        due("extremes of a full day", () -> x.extremes(0), 1438);
        for (int k : new int[] {0, 1, 2, 718, 719, 720, 1436, 1437}) {
            due("minute of " + k, () -> x.extreme(0, k, 0), k + 1);
            due("height of " + k, () -> x.extreme(0, k, 1), 1 - k % 2);
            due("kind of " + k, () -> x.extreme(0, k, 2), 1 - k % 2);
        }
        dueBounds("extreme", 0, 1437, FAR_INTS, INDEX, v -> x.extreme(0, (int) v, 0));
        dueBounds("line of extreme", 0, 1437, FAR_INTS, INDEX, v -> x.line(0, (int) v));
        dueBounds("sign of extreme", 0, 1437, FAR_INTS, INDEX, v -> x.sign(0, (int) v, 0));
    }

    private static void emptyDay() {
        TideTables x = new TideTables();
        x.constituent(0, 100000, 0, 0);
        for (int day : new int[] {0, 3649}) {
            due("extremes of an empty day", () -> x.extremes(day), 0);
            due("extreme of an empty day", () -> x.extreme(day, 0, 0), INDEX);
            due("line of an empty day", () -> x.line(day, 0), INDEX);
            due("sign of an empty day", () -> x.sign(day, 0, 0), INDEX);
        }
    }

    /** One row of 1438 minutes that begins at a minute of day 0, high or low. */
    private static TideTables row(int begin, boolean high) {
        TideTables x = new TideTables();
        // In 719 minutes a sixth of a turn: there half the amplitude is reached.
        long speed = TURN / 6 / 719;
        long middle = speed * (begin + 718) + speed / 2;
        x.constituent(0, 1, speed, TURN - middle - (high ? 0 : TURN / 2));
        return x;
    }

    private static void longestRow() {
        for (int kind = 0; kind < 2; kind++) {
            TideTables x = row(1, kind == 1);
            int height = kind == 1 ? 1 : -1;
            due("height before the row", () -> x.height(0), 0);
            due("height in the row", () -> x.mean(1, 1438), height);
            due("height behind the row", () -> x.height(1439), 0);
            due("extremes of one row", () -> x.extremes(0), 1);
            due("its minute", () -> x.extreme(0, 0, 0), 1);
            due("its height", () -> x.extreme(0, 0, 1), height);
            due("its kind", () -> x.extreme(0, 0, 2), kind);
        }
    }

    private static void rowThatBeginsTheDay() {
        for (boolean high : new boolean[] {true, false}) {
            TideTables x = row(0, high);
            due("height at the row's begin", () -> x.height(0), high ? 1 : -1);
            due("height in the row", () -> x.height(1437), high ? 1 : -1);
            due("height behind the row", () -> x.height(1438), 0);
            due("extremes of a row that begins the day", () -> x.extremes(0), 0);
            due("none of them", () -> x.extreme(0, 0, 0), INDEX);
        }
    }

    private static void rowThatEndsTheDay() {
        for (boolean high : new boolean[] {true, false}) {
            TideTables x = row(2, high);
            due("height before the row", () -> x.height(1), 0);
            due("height in the row", () -> x.height(2), high ? 1 : -1);
            due("height at the row's end", () -> x.height(1439), high ? 1 : -1);
            due("height behind it, in the next day", () -> x.height(1440), 0);
            due("extremes of a row that ends the day", () -> x.extremes(0), 0);
            due("none of them", () -> x.extreme(0, 0, 0), INDEX);
        }
    }

    // "both of these lower: a HIGH water, both higher: a LOW water"

    private static void rowBetweenHigherAndLower() {
        TideTables x = new TideTables();
        // From 1 by way of 0 to -1 within day 0, and back to 1 within day 1.
        x.constituent(0, 1, TURN / 2880, 0);
        for (int day = 0; day < 2; day++) {
            int d = day;
            due("the day's begin", () -> x.height(d * DAY), 1 - 2 * d);
            due("the day's middle", () -> x.height(d * DAY + 720), 0);
            due("the day's end", () -> x.height(d * DAY + 1439), 2 * d - 1);
            due("a row between higher and lower", () -> x.extremes(d), 0);
        }
    }

    // "of that day", "in that day"

    private static void rowCutByMidnight() {
        TideTables x = new TideTables();
        // Highest at midnight alone: the last minute of day 0 and the first but one of day 1 are lower.
        x.constituent(0, 100000, SPEED_512, TURN - 1440 * SPEED_512 % TURN);
        due("before midnight", () -> x.height(1439) < x.height(1440), true);
        due("behind midnight", () -> x.height(1441) < x.height(1440), true);
        due("the last of day 0", () -> x.extreme(0, x.extremes(0) - 1, 0), 1440 - 256);
        due("the first of day 1", () -> x.extreme(1, 0, 0), 1440 + 256);
        // Highest at 1439 and 1440 alike, and lowest a half turn on.
        x.constituent(0, 100000, SPEED_512, TURN - 1440 * SPEED_512 % TURN + SPEED_512 / 2);
        due("a row over midnight", () -> x.height(1439) == x.height(1440), true);
        due("the last of day 0 then", () -> x.extreme(0, x.extremes(0) - 1, 0), 1439 - 256);
        due("the first of day 1 then", () -> x.extreme(1, 0, 0), 1439 + 256);
    }

    // "Its minute is the first of them."

    private static void minuteOfARow() {
        TideTables x = new TideTables();
        x.constituent(0, 1, SPEED_512, 0);
        // Rows of -1 at 171 .. 341, of 1 at 427 .. 597.
        due("before the low row", () -> x.height(170), 0);
        due("the low row", () -> x.extreme(0, 0, 0), 171);
        due("before the high row", () -> x.height(426), 0);
        due("the high row", () -> x.extreme(0, 1, 0), 427);
        due("a row in the last day", () -> x.extreme(3649, 0, 0) / DAY, 3649);
    }

    // "ITS LINE: the year's number, a blank, the number of the day in its year (from 0) with three digits"

    private static void lineYears() {
        TideTables x = new TideTables();
        // High waters at the even multiples of 256 minutes, low waters at the odd ones.
        x.constituent(0, 100000, SPEED_512, 0);
        dueLine(x, 0, 0, "0 000 04:16 LOW -10.0000");
        dueLine(x, 364, 0, "0 364 02:08 HIGH 10.0000");
        dueLine(x, 365, 0, "1 000 03:44 HIGH 10.0000");
        dueLine(x, 3284, 0, "8 364 02:08 LOW -10.0000");
        dueLine(x, 3285, 0, "9 000 03:44 LOW -10.0000");
        dueLine(x, 3649, 0, "9 364 01:36 HIGH 10.0000");
        due("line behind the last year", () -> x.line(3650, 0), INDEX);
    }

    private static void lineDays() {
        TideTables x = new TideTables();
        x.constituent(0, 100000, SPEED_512, 0);
        x.days(0, 366);
        dueLine(x, 9, 0, "0 009 01:36 LOW -10.0000");
        dueLine(x, 10, 0, "0 010 03:12 LOW -10.0000");
        dueLine(x, 99, 0, "0 099 00:32 LOW -10.0000");
        dueLine(x, 100, 0, "0 100 02:08 LOW -10.0000");
        dueLine(x, 364, 0, "0 364 02:08 HIGH 10.0000");
        dueLine(x, 365, 0, "0 365 03:44 HIGH 10.0000");
        dueLine(x, 366, 0, "1 000 01:04 LOW -10.0000");
    }

    // "hours and minutes with two digits each and : between"

    private static void lineHoursAndMinutes() {
        String[] hoursAndMinutes = {"00:01", "00:09", "00:59", "01:01", "09:59", "11:59", "12:01", "19:59", "23:57"};
        TideTables x = full();
        for (String text : hoursAndMinutes) {
            int minute = Integer.parseInt(text.substring(0, 2)) * 60 + Integer.parseInt(text.substring(3));
            dueLine(x, 0, minute - 1, "0 000 " + text + " HIGH 0.0001");
        }
        TideTables y = full();
        dueLine(y, 0, 9, "0 000 00:10 LOW 0.0000");
        dueLine(y, 0, 59, "0 000 01:00 LOW 0.0000");
        dueLine(y, 0, 599, "0 000 10:00 LOW 0.0000");
        dueLine(y, 0, 1199, "0 000 20:00 LOW 0.0000");
        dueLine(y, 0, 1379, "0 000 23:00 LOW 0.0000");
        dueLine(y, 0, 1437, "0 000 23:58 LOW 0.0000");
    }

    // "the height: - if it is less than 0, its whole ten thousands without leading zeros (0 if there are
    // none), a point, the rest with four digits"

    /** The low water, of the level's height, and the high water, of 1 more. */
    private static void dueHeights(TideTables x, int level, String low, String high) {
        x.level(level);
        dueLine(x, 0, 1, "0 000 00:02 LOW " + low);
        dueLine(x, 0, 2, "0 000 00:03 HIGH " + high);
    }

    private static void lineHeightsBelowOne() {
        TideTables x = full();
        dueHeights(x, 0, "0.0000", "0.0001");
        dueHeights(x, 9, "0.0009", "0.0010");
        dueHeights(x, 99, "0.0099", "0.0100");
        dueHeights(x, 999, "0.0999", "0.1000");
        dueHeights(x, 9998, "0.9998", "0.9999");
    }

    private static void lineHeightsOfTenThousands() {
        TideTables x = full();
        dueHeights(x, 9999, "0.9999", "1.0000");
        dueHeights(x, 99999, "9.9999", "10.0000");
        dueHeights(x, 100000, "10.0000", "10.0001");
        dueHeights(x, 999999, "99.9999", "100.0000");
        dueHeights(x, 1000000, "100.0000", "100.0001");
    }

    private static void lineHeightsBelowZero() {
        TideTables x = full();
        dueHeights(x, -1, "-0.0001", "0.0000");
        dueHeights(x, -2, "-0.0002", "-0.0001");
        dueHeights(x, -10000, "-1.0000", "-0.9999");
        dueHeights(x, -10001, "-1.0001", "-1.0000");
        dueHeights(x, -100000, "-10.0000", "-9.9999");
        dueHeights(x, -1000000, "-100.0000", "-99.9999");
    }

    private static void linesOfTheHighestAndLowest() {
        dueLine(highest(1000000), 0, 0, "0 000 04:16 LOW 0.0000");
        dueLine(highest(1000000), 0, 1, "0 000 08:32 HIGH 200.0000");
        dueLine(highest(-1000000), 0, 0, "0 000 04:16 LOW -200.0000");
        dueLine(highest(-1000000), 0, 1, "0 000 08:32 HIGH 0.0000");
    }
}
