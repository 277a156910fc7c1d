import java.util.Arrays;

/** Tides of a place, reckoned from constituents; ../shared/DOC.md says what each call answers. */
public final class TideTables {
    public static final int NONE = -1;

    private static final int CONSTITUENTS = 8;
    private static final int YEARS = 10;
    private static final int COMMON_DAYS = 365;
    private static final int LEAP_DAYS = 366;
    private static final int DAY_MINUTES = 1440;

    private static final int LEVEL_LIMIT = 1000000;
    private static final int AMPLITUDE_LIMIT = 100000;
    private static final int FACTOR_LIMIT = 81920;
    private static final int FACTOR_AT_FIRST = 65536;
    private static final long SPEEDS = 1L << 40;
    private static final long TURN = 1L << 48;

    private static final int FACTOR_BITS = 16;
    private static final int ONE_BITS = 30;
    private static final long ONE = 1L << ONE_BITS;
    private static final long HALF = ONE / 2;

    private static final int MEAN_LIMIT = 2000;
    private static final int SPAN_LIMIT = 1000;
    private static final int STARTS = 3000;

    private static final int ITS_MINUTE = 0;
    private static final int ITS_HEIGHT = 1;
    private static final int ITS_KIND = 2;

    private int level;
    private final int[] amplitudes = new int[CONSTITUENTS];
    private final long[] speeds = new long[CONSTITUENTS];
    private final long[] phases = new long[CONSTITUENTS];
    private final int[][] factors = new int[CONSTITUENTS][YEARS];
    private final long[][] shifts = new long[CONSTITUENTS][YEARS];

    // The first minute of each year and, behind the last year, the number of all minutes.
    private final int[] firsts = new int[YEARS + 1];

    // The minutes of one day's extremes, kept because a line is read sign by sign:
    // without them each sign would cost the heights of a whole day. Every change but
    // that of the level, which moves all heights alike, makes them unknown again.
    private final int[] turns = new int[DAY_MINUTES];
    private int turnCount;
    private int turnDay = NONE;

    public TideTables() {
        for (int i = 0; i < CONSTITUENTS; i++) {
            Arrays.fill(factors[i], FACTOR_AT_FIRST);
        }
        for (int year = 0; year <= YEARS; year++) {
            firsts[year] = year * COMMON_DAYS * DAY_MINUTES;
        }
    }

    public int level(int v) throws IllegalArgumentException {
        if (v < -LEVEL_LIMIT || v > LEVEL_LIMIT) {
            throw new IllegalArgumentException("no such level");
        }
        int had = level;
        level = v;
        return had;
    }

    public void constituent(int i, int amplitude, long speed, long phase)
            throws IndexOutOfBoundsException, IllegalArgumentException {
        if (!isConstituent(i)) {
            throw new IndexOutOfBoundsException("no such constituent");
        }
        if (amplitude < 0 || amplitude > AMPLITUDE_LIMIT) {
            throw new IllegalArgumentException("no such amplitude");
        }
        if (speed < 0 || speed >= SPEEDS) {
            throw new IllegalArgumentException("no such speed");
        }
        if (!isPosition(phase)) {
            throw new IllegalArgumentException("no such phase");
        }
        amplitudes[i] = amplitude;
        speeds[i] = speed;
        phases[i] = phase;
        forgetTurns();
    }

    public void node(int i, int year, int factor, long shift)
            throws IndexOutOfBoundsException, IllegalArgumentException {
        if (!isConstituent(i) || !isYear(year)) {
            throw new IndexOutOfBoundsException("no such constituent or year");
        }
        if (factor < 0 || factor > FACTOR_LIMIT) {
            throw new IllegalArgumentException("no such factor");
        }
        if (!isPosition(shift)) {
            throw new IllegalArgumentException("no such shift");
        }
        factors[i][year] = factor;
        shifts[i][year] = shift;
        forgetTurns();
    }

    public int days(int year, int n) throws IndexOutOfBoundsException, IllegalArgumentException {
        if (!isYear(year)) {
            throw new IndexOutOfBoundsException("no such year");
        }
        if (n != COMMON_DAYS && n != LEAP_DAYS) {
            throw new IllegalArgumentException("a year has 365 or 366 days");
        }
        int had = (firsts[year + 1] - firsts[year]) / DAY_MINUTES;
        for (int later = year + 1; later <= YEARS; later++) {
            firsts[later] += (n - had) * DAY_MINUTES;
        }
        forgetTurns();
        return had;
    }

    public int first(int year) throws IndexOutOfBoundsException {
        if (!isYear(year) && year != YEARS) {
            throw new IndexOutOfBoundsException("no such year");
        }
        return firsts[year];
    }

    public int year(int minute) throws IndexOutOfBoundsException {
        if (!isMinute(minute)) {
            throw new IndexOutOfBoundsException("no such minute");
        }
        return yearOf(minute);
    }

    public long position(int i, int minute) throws IndexOutOfBoundsException {
        if (!isConstituent(i) || !isMinute(minute)) {
            throw new IndexOutOfBoundsException("no such constituent or minute");
        }
        return positionAt(i, minute, yearOf(minute));
    }

    public int cosine(long x) throws IllegalArgumentException {
        if (!isPosition(x)) {
            throw new IllegalArgumentException("no such position");
        }
        return cosineOf(x);
    }

    public int height(int minute) throws IndexOutOfBoundsException {
        if (!isMinute(minute)) {
            throw new IndexOutOfBoundsException("no such minute");
        }
        return heightAt(minute);
    }

    public int mean(int minute, int n) throws IllegalArgumentException, IndexOutOfBoundsException {
        if (n < 1 || n > MEAN_LIMIT) {
            throw new IllegalArgumentException("no such number of minutes");
        }
        if (minute < 0 || minute > firsts[YEARS] - n) {
            throw new IndexOutOfBoundsException("no such minute");
        }
        long sum = 0;
        for (int k = 0; k < n; k++) {
            sum += heightAt(minute + k);
        }
        return (int) Math.floorDiv(sum, (long) n);
    }

    public int extremes(int day) throws IndexOutOfBoundsException {
        if (!isDay(day)) {
            throw new IndexOutOfBoundsException("no such day");
        }
        return countTurns(day);
    }

    public int extreme(int day, int k, int what)
            throws IndexOutOfBoundsException, IllegalArgumentException {
        if (!isExtreme(day, k)) {
            throw new IndexOutOfBoundsException("no such day or extreme");
        }
        int minute = turns[k];
        switch (what) {
            case ITS_MINUTE:
                return minute;
            case ITS_HEIGHT:
                return heightAt(minute);
            case ITS_KIND:
                return isHigh(minute) ? 1 : 0;
            default:
                throw new IllegalArgumentException("no such question");
        }
    }

    public int line(int day, int k) throws IndexOutOfBoundsException {
        if (!isExtreme(day, k)) {
            throw new IndexOutOfBoundsException("no such day or extreme");
        }
        return lineOf(turns[k]).length();
    }

    public int sign(int day, int k, int j) throws IndexOutOfBoundsException {
        if (!isExtreme(day, k)) {
            throw new IndexOutOfBoundsException("no such day or extreme");
        }
        StringBuilder text = lineOf(turns[k]);
        if (j < 0 || j >= text.length()) {
            throw new IndexOutOfBoundsException("no such character");
        }
        return text.charAt(j);
    }

    public int above(int minute, int v, int span)
            throws IllegalArgumentException, IndexOutOfBoundsException {
        if (span < 1 || span > SPAN_LIMIT) {
            throw new IllegalArgumentException("no such span");
        }
        if (!isMinute(minute)) {
            throw new IndexOutOfBoundsException("no such minute");
        }
        // The last start may need span - 1 minutes behind it.
        int end = Math.min(firsts[YEARS], minute + STARTS + span - 1);
        int enough = 0;
        for (int m = minute; m < end; m++) {
            enough = heightAt(m) >= v ? enough + 1 : 0;
            if (enough == span) {
                return m - span + 1;
            }
        }
        return NONE;
    }

    private static boolean isConstituent(int i) {
        return i >= 0 && i < CONSTITUENTS;
    }

    private static boolean isYear(int year) {
        return year >= 0 && year < YEARS;
    }

    private static boolean isPosition(long x) {
        return x >= 0 && x < TURN;
    }

    private boolean isMinute(int minute) {
        return minute >= 0 && minute < firsts[YEARS];
    }

    private boolean isDay(int day) {
        return day >= 0 && day < firsts[YEARS] / DAY_MINUTES;
    }

    private boolean isExtreme(int day, int k) {
        return isDay(day) && k >= 0 && k < countTurns(day);
    }

    private int yearOf(int minute) {
        int year = 0;
        while (year < YEARS - 1 && minute >= firsts[year + 1]) {
            year++;
        }
        return year;
    }

    private long positionAt(int i, int minute, int year) {
        // TURN is a power of two, so the mask is right even where the sum would wrap around.
        return (phases[i] + speeds[i] * minute + shifts[i][year]) & (TURN - 1);
    }

    private static int cosineOf(long x) {
        int q = (int) (x >> 46);
        long r = (x >> 16) & (ONE - 1);
        if (q == 1 || q == 3) {
            r = ONE - r;
        }
        long s = r * r >> ONE_BITS;
        long e = 22401992 - (960477 * s >> ONE_BITS);
        long f = 272375561 - (e * s >> ONE_BITS);
        long g = 1324675870 - (f * s >> ONE_BITS);
        long size = ONE - (g * s >> ONE_BITS);
        return (int) (q == 1 || q == 2 ? -size : size);
    }

    private int heightAt(int minute) {
        int year = yearOf(minute);
        long sum = HALF;
        for (int i = 0; i < CONSTITUENTS; i++) {
            // Still ones add nothing, and their cosine is the dear part.
            if (amplitudes[i] != 0) {
                sum += partAt(i, minute, year);
            }
        }
        return (int) (sum >> ONE_BITS) + level;
    }

    private long partAt(int i, int minute, int year) {
        // 100000 * 81920 * 2^30 is just below 2^63; a shift, unlike /, rounds down below 0 too.
        long size = (long) amplitudes[i] * factors[i][year];
        return size * cosineOf(positionAt(i, minute, year)) >> FACTOR_BITS;
    }

    private void forgetTurns() {
        turnDay = NONE;
    }

    private int countTurns(int day) {
        if (turnDay != day) {
            findTurns(day * DAY_MINUTES);
            turnDay = day;
        }
        return turnCount;
    }

    private void findTurns(int start) {
        turnCount = 0;
        int rowStart = start;
        int rowHeight = heightAt(start);
        // 0 until the first row ends: that row has no minute before it.
        int cameBy = 0;
        for (int minute = start + 1; minute < start + DAY_MINUTES; minute++) {
            int height = heightAt(minute);
            if (height != rowHeight) {
                int leavesBy = height > rowHeight ? 1 : -1;
                if (cameBy == -leavesBy && turnCount < turns.length) {
                    turns[turnCount] = rowStart;
                    turnCount++;
                }
                cameBy = leavesBy;
                rowStart = minute;
                rowHeight = height;
            }
        }
    }

    private boolean isHigh(int turn) {
        return heightAt(turn - 1) < heightAt(turn);
    }

    private StringBuilder lineOf(int turn) {
        int year = yearOf(turn);
        int inYear = turn - firsts[year];
        int inDay = inYear % DAY_MINUTES;
        StringBuilder text = new StringBuilder();
        appendDigits(text, year, 1);
        text.append(' ');
        appendDigits(text, inYear / DAY_MINUTES, 100);
        text.append(' ');
        appendDigits(text, inDay / 60, 10);
        text.append(':');
        appendDigits(text, inDay % 60, 10);
        text.append(isHigh(turn) ? " HIGH " : " LOW ");
        appendHeight(text, heightAt(turn));
        return text;
    }

    private static void appendHeight(StringBuilder text, int height) {
        if (height < 0) {
            text.append('-');
        }
        int size = Math.abs(height);
        text.append(size / 10000);
        text.append('.');
        appendDigits(text, size % 10000, 1000);
    }

    private static void appendDigits(StringBuilder text, int number, int highest) {
        for (int unit = highest; unit > 0; unit /= 10) {
            text.append((char) ('0' + number / unit % 10));
        }
    }
}
