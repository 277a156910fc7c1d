/**
 * The boundary cases that the document names under its promises, sentence by sentence: at the boundary
 * and one beyond it. The sentence stands above its test; the exceptions' order is RefusedTest's.
 */
public final class BoundariesTest extends Checks {
    private static final int NONE = TideTables.NONE;

    public static void main(String[] args) {
        newObject();
        levelAnswersWhatItWas();
        constituentLeavesFactorsAndShifts();
        constituentLeavesTheOthers();
        nodeLeavesTheOthers();
        daysAnswersHowManyItHad();
        daysOfTheFirstYear();
        daysOfTheLastYear();
        daysTakenBack();
        first();
        firstOfYearTen();
        year();
        position();
        cosine();
        heightWithoutConstituents();
        meanOfOne();
        meanOfMostMinutes();
        meanRoundsDown();
        meanOfMinutesThatAreNot();
        meanLooksAtNFirst();
        extremesOfRowsAtTheDaysEnds();
        extremeWhat();
        extremeOfNoSuchNumber();
        lineLengths();
        signOfNoSuchCharacter();
        aboveAtLeast();
        aboveOfTheNext3000();
        aboveMinutesBehindThe3000();
        aboveTheLeastMinute();
        aboveForWantOfMinutes();
        aboveSpan();
        end();
    }

    // Promise 1: "Level 0, nothing turns."

    private static void newObject() {
        TideTables x = new TideTables();
        due("mean of a new object", () -> x.mean(0, 2000), 0);
        due("mean of its end", () -> x.mean(ALL - 2000, 2000), 0);
        due("extremes of its first day", () -> x.extremes(0), 0);
        due("extremes of its last day", () -> x.extremes(3649), 0);
        due("above 0 at once", () -> x.above(0, 0, 1000), 0);
        due("above 1 never", () -> x.above(0, 1, 1), NONE);
        due("its level", () -> x.level(1), 0);
        due("another one's level", () -> new TideTables().level(1), 0);
    }

    // Promise 2: "The level is set: what it was. IllegalArgumentException when it is no level."

    private static void levelAnswersWhatItWas() {
        TideTables x = new TideTables();
        due("level(1000000)", () -> x.level(1000000), 0);
        due("level(1000001)", () -> x.level(1000001), ARGUMENT);
        due("level(1000000) again", () -> x.level(1000000), 1000000);
        due("level(-1000000)", () -> x.level(-1000000), 1000000);
        due("level(-1000001)", () -> x.level(-1000001), ARGUMENT);
        due("level(0)", () -> x.level(0), -1000000);
        due("height at level 0", () -> x.height(0), 0);
    }

    // Promise 3: "A constituent is set (its factors and shifts stay)."

    private static void constituentLeavesFactorsAndShifts() {
        TideTables x = new TideTables();
        for (int year = 0; year < 10; year++) {
            x.node(7, year, 65536 - 4096 * year, year);
        }
        x.constituent(7, 16, 0, 0);
        for (int year = 0; year < 10; year++) {
            int y = year;
            due("factor of year " + y, () -> x.height(y * YEAR), 16 - y);
            due("shift of year " + y, () -> x.position(7, y * YEAR), y);
        }
        x.constituent(7, 0, 0, 0);
        due("without amplitude", () -> x.height(9 * YEAR), 0);
        x.constituent(7, 32, 0, TURN / 2);
        due("factor stays yet", () -> x.height(9 * YEAR), -14);
        due("shift stays yet", () -> x.position(7, 9 * YEAR), TURN / 2 + 9);
    }

    private static void constituentLeavesTheOthers() {
        TideTables x = new TideTables();
        for (int i = 0; i < 8; i++) {
            x.constituent(i, 1 << i, i, 100 + i);
        }
        due("all eight", () -> x.height(0), 255);
        x.constituent(0, 0, 0, 0);
        x.constituent(7, 0, 0, 0);
        due("without the first and the last", () -> x.height(0), 126);
        for (int i = 1; i < 7; i++) {
            int c = i;
            due("position of " + c, () -> x.position(c, 2), 100 + 3 * c);
        }
        due("position of the first", () -> x.position(0, 2), 0);
        due("position of the last", () -> x.position(7, 2), 0);
    }

    // Promise 4: "Factor and shift of a constituent for a year are set."

    private static void nodeLeavesTheOthers() {
        TideTables x = new TideTables();
        x.constituent(0, 1000, 0, 0);
        x.constituent(7, 2000, 0, 0);
        x.node(0, 9, 0, 5);
        x.node(7, 0, 0, 6);
        due("height in year 0", () -> x.height(0), 1000);
        due("height in year 1", () -> x.height(YEAR), 3000);
        due("height in year 8", () -> x.height(9 * YEAR - 1), 3000);
        due("height in year 9", () -> x.height(9 * YEAR), 2000);
        due("position(0, 0)", () -> x.position(0, 0), 0);
        due("position(7, 0)", () -> x.position(7, 0), 6);
        due("position(1, 0)", () -> x.position(1, 0), 0);
        due("position(7, 1)", () -> x.position(7, YEAR), 0);
        due("position(0, 9)", () -> x.position(0, 9 * YEAR), 5);
        due("position(7, 9)", () -> x.position(7, 9 * YEAR), 0);
    }

    // Promise 5: "A year has n days (minutes behind it have other numbers, years and days then): how many
    // it had."

    private static void daysAnswersHowManyItHad() {
        TideTables x = new TideTables();
        for (int y : new int[] {0, 4, 9}) {
            due("days(" + y + ", 365)", () -> x.days(y, 365), 365);
            due("days(" + y + ", 366)", () -> x.days(y, 366), 365);
            due("days(" + y + ", 367)", () -> x.days(y, 367), ARGUMENT);
            due("days(" + y + ", 364)", () -> x.days(y, 364), ARGUMENT);
            due("days(" + y + ", 366) again", () -> x.days(y, 366), 366);
        }
        due("set twice, it counts once", () -> x.first(10), ALL + 3 * DAY);
    }

    private static void daysOfTheFirstYear() {
        TideTables x = new TideTables();
        x.days(0, 366);
        due("its first minute", () -> x.first(0), 0);
        due("its last minute", () -> x.year(YEAR + DAY - 1), 0);
        for (int year = 1; year <= 10; year++) {
            int y = year;
            due("first(" + y + ") moves", () -> x.first(y), y * YEAR + DAY);
        }
    }

    private static void daysOfTheLastYear() {
        TideTables x = new TideTables();
        x.days(9, 366);
        for (int year = 0; year <= 9; year++) {
            int y = year;
            due("first(" + y + ") stays", () -> x.first(y), y * YEAR);
        }
        due("first(10) moves", () -> x.first(10), ALL + DAY);
        due("the last year is longer", () -> x.year(ALL + DAY - 1), 9);
        due("a day more", () -> x.extremes(3650), 0);
        due("not two", () -> x.extremes(3651), INDEX);
    }

    private static void daysTakenBack() {
        TideTables x = new TideTables();
        // Low waters at the odd multiples of 256 minutes, in year 6 at the even ones.
        x.constituent(0, 100000, SPEED_512, 0);
        x.node(0, 6, 65536, TURN / 2);
        x.days(5, 366);
        due("the last day", () -> x.extremes(3650), 5);
        due("the last minute", () -> x.year(ALL + DAY - 1), 9);
        due("the day is year 5's", () -> x.extreme(6 * 365, 0, 2), 0);
        due("its year", () -> x.year(6 * YEAR), 5);
        due("days(5, 365)", () -> x.days(5, 365), 366);
        due("the day is year 6's", () -> x.extreme(6 * 365, 0, 2), 1);
        due("its year then", () -> x.year(6 * YEAR), 6);
        due("the last day is gone", () -> x.extremes(3650), INDEX);
        due("extreme of it", () -> x.extreme(3650, 0, 0), INDEX);
        due("line of it", () -> x.line(3650, 0), INDEX);
        due("sign of it", () -> x.sign(3650, 0, 0), INDEX);
        due("its first minute is gone", () -> x.height(ALL), INDEX);
        due("the minute before it", () -> x.year(ALL - 1), 9);
    }

    // Promise 6: "The first minute of a year; for year 10, how many minutes there are in all."

    private static void first() {
        TideTables x = new TideTables();
        dueBounds("first of year", 0, 10, FAR_INTS, INDEX, v -> x.first((int) v));
        due("first(0)", () -> x.first(0), 0);
        due("first(9)", () -> x.first(9), 9 * YEAR);
        due("first(10)", () -> x.first(10), ALL);
    }

    private static void firstOfYearTen() {
        TideTables x = new TideTables();
        due("the last of all", () -> x.height(x.first(10) - 1), 0);
        due("one behind all", () -> x.height(x.first(10)), INDEX);
        for (int year = 0; year < 10; year++) {
            x.days(year, 366);
        }
        due("of ten leap years", () -> x.first(10), 5270400);
        due("the last of all then", () -> x.height(5270399), 0);
        due("one behind all then", () -> x.height(5270400), INDEX);
    }

    // Promise 7: "The year of a minute."

    private static void year() {
        TideTables x = new TideTables();
        for (int year = 1; year < 10; year += 2) {
            x.days(year, 366);
        }
        for (int year = 0; year < 10; year++) {
            int y = year;
            due("year of the first minute of " + y, () -> x.year(x.first(y)), y);
            due("year of the last minute of " + y, () -> x.year(x.first(y + 1) - 1), y);
        }
        due("before the first year", () -> x.year(-1), INDEX);
        due("behind the last year", () -> x.year(ALL + 5 * DAY), INDEX);
    }

    // Promise 8: "THE POSITION of a constituent at a minute."

    private static void position() {
        TideTables x = new TideTables();
        x.constituent(0, 0, 1, 10);
        x.constituent(7, 0, 2, 20);
        due("the first at the first", () -> x.position(0, 0), 10);
        due("the last at the first", () -> x.position(7, 0), 20);
        due("the first at the last", () -> x.position(0, ALL - 1), ALL + 9);
        due("the last at the last", () -> x.position(7, ALL - 1), 2 * ALL + 18);
        due("before the first", () -> x.position(-1, 0), INDEX);
        due("behind the last", () -> x.position(8, 0), INDEX);
        due("before the first minute", () -> x.position(0, -1), INDEX);
        due("behind the last minute", () -> x.position(7, ALL), INDEX);
    }

    // Promise 9: "IllegalArgumentException when x is not 0 .. 2^48 - 1."

    private static void cosine() {
        TideTables x = new TideTables();
        dueBounds("cosine", 0, 281474976710655L, FAR_LONGS, ARGUMENT, v -> x.cosine(v));
        due("cosine(0)", () -> x.cosine(0), 1073741824);
        due("cosine(2^48 - 1)", () -> x.cosine(281474976710655L), 1073741824);
    }

    // Promise 10: "THE HEIGHT (without constituents the LEVEL)."

    private static void heightWithoutConstituents() {
        TideTables x = new TideTables();
        for (int v : new int[] {-1000000, -1, 0, 1, 1000000}) {
            x.level(v);
            due("height(0) at level " + v, () -> x.height(0), v);
            due("the last height at level " + v, () -> x.height(ALL - 1), v);
        }
        // Speeds and phases alone move nothing; neither do amplitudes whose factor is 0.
        x.constituent(0, 0, SPEED_512, TURN / 3);
        x.constituent(1, 100000, SPEED_512, TURN / 3);
        x.node(1, 0, 0, 0);
        due("without amplitude or factor", () -> x.mean(0, 2000), 1000000);
        due("before the first minute", () -> x.height(-1), INDEX);
        due("behind the last minute", () -> x.height(ALL), INDEX);
    }

    // Promise 11: "The mean of the heights at n minutes from one on, rounded down."

    /** 10000 in year 0 and -10000 in year 1 (and as in year 0 behind it), or the other way round. */
    private static TideTables step(boolean down) {
        TideTables x = new TideTables();
        x.constituent(0, 10000, 0, down ? 0 : TURN / 2);
        x.node(0, 1, 65536, TURN / 2);
        return x;
    }

    private static void meanOfOne() {
        TideTables x = step(true);
        due("mean of the first", () -> x.mean(0, 1), 10000);
        due("mean of the last in year 0", () -> x.mean(YEAR - 1, 1), 10000);
        due("mean of the first in year 1", () -> x.mean(YEAR, 1), -10000);
        due("mean of the last", () -> x.mean(ALL - 1, 1), 10000);
        due("mean of none", () -> x.mean(0, 0), ARGUMENT);
        due("mean of none at the end", () -> x.mean(ALL - 1, 0), ARGUMENT);
    }

    private static void meanOfMostMinutes() {
        // The sums of 2000 such heights pass 2^31.
        for (int sign = -1; sign <= 1; sign += 2) {
            TideTables x = new TideTables();
            x.level(1000000 * sign);
            for (int i = 0; i < 8; i++) {
                x.constituent(i, 100000, 0, sign < 0 ? TURN / 2 : 0);
                x.node(i, 0, 81920, 0);
            }
            due("mean of 2000", () -> x.mean(0, 2000), 2000000 * sign);
            due("mean of 2001", () -> x.mean(0, 2001), ARGUMENT);
        }
        TideTables x = step(true);
        due("mean of all 2000 before", () -> x.mean(YEAR - 2000, 2000), 10000);
        // 1999 times 10000 and once -10000.
        due("mean of 2000, one of them behind", () -> x.mean(YEAR - 1999, 2000), 9990);
        due("mean of 2000, one of them before", () -> x.mean(YEAR - 1, 2000), -9990);
    }

    private static void meanRoundsDown() {
        TideTables x = step(true);
        x.constituent(0, 1, 0, 0);
        // Heights 1 before and -1 behind.
        due("1 of 2", () -> x.mean(YEAR - 1, 2), 0);
        due("1 of 3", () -> x.mean(YEAR - 2, 3), 0);
        due("-1 of 3", () -> x.mean(YEAR - 1, 3), -1);
        due("1998 of 2000", () -> x.mean(YEAR - 1999, 2000), 0);
        due("-1998 of 2000", () -> x.mean(YEAR - 1, 2000), -1);
        due("-2000 of 2000", () -> x.mean(YEAR, 2000), -1);
        x.level(-1);
        due("-2 of 2", () -> x.mean(YEAR - 1, 2), -1);
        due("-2 of 3", () -> x.mean(YEAR - 2, 3), -1);
        due("-4 of 3", () -> x.mean(YEAR - 1, 3), -2);
        due("0 of 2000", () -> x.mean(YEAR - 2000, 2000), 0);
    }

    // "IndexOutOfBoundsException, also when one of the n is no such minute"

    private static void meanOfMinutesThatAreNot() {
        TideTables x = new TideTables();
        for (int n : new int[] {1, 2, 1999, 2000}) {
            due("the last " + n, () -> x.mean(ALL - n, n), 0);
            due(n + " and one of them behind", () -> x.mean(ALL - n + 1, n), INDEX);
            due(n + " and all of them behind", () -> x.mean(ALL, n), INDEX);
            due("the first " + n, () -> x.mean(0, n), 0);
            due(n + " and one of them before", () -> x.mean(-1, n), INDEX);
            due(n + " from the least", () -> x.mean(LEAST, n), INDEX);
            due(n + " from the most", () -> x.mean(MOST, n), INDEX);
            due(n + " up to the most", () -> x.mean(MOST - n + 1, n), INDEX);
        }
        x.days(9, 366);
        due("there are more then", () -> x.mean(ALL - 1999, 2000), 0);
        due("and their last 2000", () -> x.mean(ALL + DAY - 2000, 2000), 0);
        due("and one less", () -> x.mean(ALL + DAY - 1999, 2000), INDEX);
    }

    // "IllegalArgumentException when n is not 1 .. 2000 (this is looked at first)"

    private static void meanLooksAtNFirst() {
        TideTables x = new TideTables();
        dueBounds("mean of", 1, 2000, FAR_INTS, ARGUMENT, v -> x.mean(0, (int) v));
        for (int minute : new int[] {-1, ALL, LEAST, MOST}) {
            for (int n : new int[] {0, 2001, LEAST, MOST}) {
                due("mean(" + minute + ", " + n + ")", () -> x.mean(minute, n), ARGUMENT);
            }
        }
    }

    // Promise 12: "How many extremes a day has (none of a row of minutes that begins or ends the day)."

    /** A high water at a minute of day 0, and every 512 minutes; low waters between them. */
    private static TideTables highAt(int minute) {
        TideTables x = new TideTables();
        x.constituent(0, 100000, SPEED_512, Math.floorMod(-minute * SPEED_512, TURN));
        return x;
    }

    private static void extremesOfRowsAtTheDaysEnds() {
        // High at 0, 512, 1024 and low at 256, 768, 1280: that at 0 begins the day.
        due("high at 0", () -> highAt(0).extremes(0), 5);
        due("high at 0: the first", () -> highAt(0).extreme(0, 0, 0), 256);
        due("high at 1", () -> highAt(1).extremes(0), 6);
        due("high at 1: the first", () -> highAt(1).extreme(0, 0, 0), 1);
        // High at 414, 926, 1438 and low at 158, 670, 1182.
        due("high at 1438", () -> highAt(1438).extremes(0), 6);
        due("high at 1438: the last", () -> highAt(1438).extreme(0, 5, 0), 1438);
        due("high at 1439", () -> highAt(1439).extremes(0), 5);
        due("high at 1439: the last", () -> highAt(1439).extreme(0, 4, 0), 1183);
        due("high at 1440", () -> highAt(1440).extremes(0), 5);
        due("high at 1440, the next day", () -> highAt(1440).extremes(1), 5);
        due("high at 1441, the next day", () -> highAt(1441).extreme(1, 0, 0), 1441);
        // The same for low waters: low at 0 is high at 256.
        due("low at 0", () -> highAt(256).extreme(0, 0, 0), 256);
        due("low at 1", () -> highAt(257).extreme(0, 0, 0), 1);
        due("low at 1, its kind", () -> highAt(257).extreme(0, 0, 2), 0);
        due("low at 1438", () -> highAt(1438 - 256).extreme(0, 5, 0), 1438);
        due("low at 1439", () -> highAt(1439 - 256).extremes(0), 5);
    }

    // Promise 13: "its minute (what = 0), its height (1), 1 for HIGH and 0 for LOW (2) ..
    // IllegalArgumentException for another what."

    private static void extremeWhat() {
        TideTables x = highAt(1);
        x.level(7);
        dueBounds("extreme's what", 0, 2, FAR_INTS, ARGUMENT, v -> x.extreme(0, 0, (int) v));
        due("minute", () -> x.extreme(0, 0, 0), 1);
        due("height", () -> x.extreme(0, 0, 1), 100007);
        due("kind", () -> x.extreme(0, 0, 2), 1);
        due("minute of the low water", () -> x.extreme(0, 1, 0), 257);
        due("height of the low water", () -> x.extreme(0, 1, 1), -99993);
        due("kind of the low water", () -> x.extreme(0, 1, 2), 0);
    }

    // "IndexOutOfBoundsException, also when there is no such extreme"

    private static void extremeOfNoSuchNumber() {
        TideTables x = highAt(1);
        for (int what = 0; what < 3; what++) {
            int w = what;
            dueBounds("extreme for " + w, 0, 5, FAR_INTS, INDEX, v -> x.extreme(0, (int) v, w));
        }
        dueBounds("line of extreme", 0, 5, FAR_INTS, INDEX, v -> x.line(0, (int) v));
        dueBounds("sign of extreme", 0, 5, FAR_INTS, INDEX, v -> x.sign(0, (int) v, 0));
        dueBounds("extreme of day", 0, 3649, FAR_INTS, INDEX, v -> x.extreme((int) v, 0, 0));
        dueBounds("line of day", 0, 3649, FAR_INTS, INDEX, v -> x.line((int) v, 0));
        dueBounds("sign of day", 0, 3649, FAR_INTS, INDEX, v -> x.sign((int) v, 0, 0));
    }

    // Promise 14: "How many characters the line of extreme k of a day has."

    private static void lineLengths() {
        TideTables x = highAt(1);
        due("of HIGH 10.0000", () -> x.line(0, 0), 24);
        due("of LOW -10.0000", () -> x.line(0, 1), 24);
        x.level(-1);
        due("of HIGH 9.9999", () -> x.line(0, 0), 23);
        x.level(899999);
        due("of HIGH 99.9999", () -> x.line(0, 0), 24);
        x.level(900000);
        due("of HIGH 100.0000", () -> x.line(0, 0), 25);
        x.level(100000);
        due("of LOW 0.0000", () -> x.line(0, 1), 22);
        x.level(99999);
        due("of LOW -0.0001", () -> x.line(0, 1), 23);
    }

    // Promise 15: "also when there is no such extreme or character"

    private static void signOfNoSuchCharacter() {
        TideTables x = highAt(1);
        dueBounds("sign", 0, 23, FAR_INTS, INDEX, v -> x.sign(0, 0, (int) v));
        due("its first character", () -> x.sign(0, 0, 0), (int) '0');
        due("its last character", () -> x.sign(0, 0, 23), (int) '0');
        x.level(-1);
        dueBounds("sign of the shorter line", 0, 22, FAR_INTS, INDEX, v -> x.sign(0, 0, (int) v));
        due("its last character then", () -> x.sign(0, 0, 22), (int) '9');
        x.level(900000);
        dueBounds("sign of the longer line", 0, 24, FAR_INTS, INDEX, v -> x.sign(0, 0, (int) v));
    }

    // Promise 16: "at which .. the height is at least v"

    private static void aboveAtLeast() {
        TideTables x = new TideTables();
        x.level(5);
        due("more than enough", () -> x.above(0, 4, 1), 0);
        due("just enough", () -> x.above(0, 5, 1), 0);
        due("one too little", () -> x.above(0, 6, 1), NONE);
        due("just enough for a span", () -> x.above(0, 5, 1000), 0);
        due("the least v", () -> x.above(0, LEAST, 1000), 0);
        due("the greatest v", () -> x.above(0, MOST, 1), NONE);
        x.level(-5);
        due("just enough below 0", () -> x.above(0, -5, 1), 0);
        due("one too little below 0", () -> x.above(0, -4, 1), NONE);
    }

    // "The least minute, from one on, of the next 3000 (with itself)"

    private static void aboveOfTheNext3000() {
        TideTables x = step(false);
        due("the first of the 3000", () -> x.above(YEAR, 10000, 1), YEAR);
        due("the second of the 3000", () -> x.above(YEAR - 1, 10000, 1), YEAR);
        due("the last of the 3000", () -> x.above(YEAR - 2999, 10000, 1), YEAR);
        due("one behind the 3000", () -> x.above(YEAR - 3000, 10000, 1), NONE);
    }

    // "and at the span - 1 minutes behind it (which may lie behind the 3000)"

    private static void aboveMinutesBehindThe3000() {
        TideTables x = step(false);
        for (int span : new int[] {2, 1000}) {
            due("all in the 3000", () -> x.above(YEAR - 3000 + span, 10000, span), YEAR);
            due("one behind the 3000", () -> x.above(YEAR - 3001 + span, 10000, span), YEAR);
            due("all but one behind the 3000", () -> x.above(YEAR - 2999, 10000, span), YEAR);
            due("all behind the 3000", () -> x.above(YEAR - 3000, 10000, span), NONE);
        }
        // The minutes behind the 3000 have to be high enough, too.
        TideTables y = step(true);
        due("up to the last high one", () -> y.above(YEAR - 1000, 10000, 1000), YEAR - 1000);
        due("one beyond it", () -> y.above(YEAR - 999, 10000, 1000), NONE);
        due("two up to the last high one", () -> y.above(YEAR - 2, 10000, 2), YEAR - 2);
        due("two with one beyond it", () -> y.above(YEAR - 1, 10000, 2), NONE);
    }

    // "The least minute"

    private static void aboveTheLeastMinute() {
        TideTables x = new TideTables();
        // Heights of 1 at 427 .. 597, 171 minutes, and every 512 minutes.
        x.constituent(0, 1, SPEED_512, 0);
        due("the row's begin", () -> x.above(86, 1, 171), 427);
        due("from the row's begin", () -> x.above(427, 1, 171), 427);
        due("one minute late", () -> x.above(428, 1, 171), 939);
        due("what is left of the row", () -> x.above(428, 1, 170), 428);
        due("the row's last minute", () -> x.above(597, 1, 1), 597);
        due("behind the row", () -> x.above(598, 1, 1), 939);
        due("longer than any row", () -> x.above(0, 1, 172), NONE);
    }

    // "NONE when there is none such (for want of minutes, too)"

    private static void aboveForWantOfMinutes() {
        TideTables x = new TideTables();
        for (int span : new int[] {1, 2, 999, 1000}) {
            due("the last " + span, () -> x.above(ALL - span, 0, span), ALL - span);
            if (span > 1) {
                due("one less than " + span, () -> x.above(ALL - span + 1, 0, span), NONE);
                due("the last minute for " + span, () -> x.above(ALL - 1, 0, span), NONE);
            }
            due("behind the last for " + span, () -> x.above(ALL, 0, span), INDEX);
            due("before the first for " + span, () -> x.above(-1, 0, span), INDEX);
        }
        due("the last 3000, not high enough", () -> x.above(ALL - 3000, 1, 1), NONE);
        x.days(0, 366);
        due("a day more", () -> x.above(ALL - 999, 0, 1000), ALL - 999);
        due("at its end", () -> x.above(ALL + DAY - 1000, 0, 1000), ALL + DAY - 1000);
        due("one less", () -> x.above(ALL + DAY - 999, 0, 1000), NONE);
    }

    // "IllegalArgumentException when span is not 1 .. 1000"

    private static void aboveSpan() {
        TideTables x = new TideTables();
        dueBounds("above for a span of", 1, 1000, FAR_INTS, ARGUMENT, v -> x.above(0, 0, (int) v));
        dueBounds("above, in vain, for a span of", 1, 1000, FAR_INTS, ARGUMENT, v -> x.above(0, 1, (int) v));
        dueBounds("above from the last minute", 1, 1000, FAR_INTS, ARGUMENT, v -> x.above(ALL - 1, 0, (int) v));
    }
}
