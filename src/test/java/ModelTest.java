import java.math.BigInteger;
import java.util.ArrayList;
import java.util.Arrays;
import java.util.List;
import java.util.Random;
import java.util.concurrent.Callable;
import java.util.function.IntUnaryOperator;

/**
 * Long runs of calls, ordinary, at the edges and wrong, answered by the class and by a model
 * that follows the document's words in whole numbers without limit and keeps nothing between calls.
 */
public final class ModelTest {
    private static final int RUNS = 30;
    // Nothing is promised of an object behind its 512th call; a step of a run makes 31 calls at most.
    private static final int CALLS = 512 - 31;
    private static final BigInteger ONE = BigInteger.TWO.pow(30);
    private static final BigInteger TURN = BigInteger.TWO.pow(48);

    private final Random random;
    private final TideTables tables = new TideTables();
    private int level = 0;
    private final long[][] constituents = new long[8][3];
    private final long[][] factors = new long[8][10];
    private final long[][] shifts = new long[8][10];
    private final int[] days = new int[10];
    // A day that the run comes back to, so that what is kept of a day is put to the test.
    private int homeDay;
    private int calls = 0;

    private ModelTest(int seed) {
        random = new Random(seed);
        Arrays.fill(days, 365);
        for (long[] row : factors) {
            Arrays.fill(row, 65536);
        }
        homeDay = random.nextInt(3660);
    }

    public static void main(String[] args) {
        for (int seed = 0; seed < RUNS; seed++) {
            new ModelTest(seed).run(seed);
        }
        for (int day = 0; day < 4; day++) {
            new ModelTest(RUNS + day).runTrembling(day);
        }
        Checks.end();
    }

    private void run(int seed) {
        while (calls < CALLS) {
            String where = "seed " + seed + ", call " + calls + ": ";
            int kind = calls < 4 ? 1 : random.nextInt(16);
            if (kind < 5) {
                setSomething(where, kind);
            } else if (kind < 10) {
                askAMinute(where, kind);
            } else {
                askADay(where, kind);
            }
        }
    }

    // Heights at the edge of rounding, where a minute's extreme has another beside it.
    private void runTrembling(int day) {
        long[][] rows = {{1, 32768, 33722727399424L}, {1, 32768, 247752202158080L}, {1, 0, 153515743117312L}};
        for (int i = 0; i < rows.length; i++) {
            tables.constituent(i, (int) rows[i][0], rows[i][1], rows[i][2]);
            constituents[i] = rows[i];
        }
        List<int[]> found = extremes(day);
        compare("trembling day " + day, () -> tables.extremes(day), found::size);
        for (int n = 0; n < found.size() && calls < CALLS; n += 7) {
            int k = n;
            for (int w = 0; w < 3; w++) {
                int what = w;
                compare("trembling extreme " + day + " " + k + " " + what,
                        () -> tables.extreme(day, k, what), () -> extreme(found, k, what));
            }
        }
    }

    private void compare(String what, Callable<Object> call, Callable<Object> model) {
        calls++;
        Checks.due(what, call, Checks.answer(model));
    }

    private void compare(String what, Runnable call, Runnable model) {
        calls++;
        Checks.due(what, call, Checks.answer(model));
    }

    // The calls

    private void setSomething(String where, int kind) {
        int i = pick(8);
        int year = pick(10);
        switch (kind) {
            case 0 -> {
                int v = random.nextInt(8) == 0 ? random.nextInt(2200001) - 1100000 : random.nextInt(30001) - 15000;
                compare(where + "level " + v, () -> tables.level(v), () -> level(v));
            }
            case 1, 2 -> {
                int amplitude = random.nextBoolean() ? pick(100001) : pick(6);
                long speed = random.nextInt(3) == 0 ? 1L << random.nextInt(41) : pickLong(1L << 40);
                long phase = pickLong(1L << 48);
                compare(where + "constituent " + i + " " + amplitude + " " + speed + " " + phase,
                        () -> tables.constituent(i, amplitude, speed, phase),
                        () -> constituent(i, amplitude, speed, phase));
            }
            case 3 -> {
                int factor = pick(81921);
                long shift = pickLong(1L << 48);
                compare(where + "node " + i + " " + year + " " + factor + " " + shift,
                        () -> tables.node(i, year, factor, shift),
                        () -> node(i, year, factor, shift));
            }
            default -> {
                int n = random.nextInt(8) == 0 ? 364 + 3 * random.nextInt(2) : 365 + random.nextInt(2);
                compare(where + "days " + year + " " + n,
                        () -> tables.days(year, n), () -> days(year, n));
            }
        }
    }

    private void askAMinute(String where, int kind) {
        int minute = pickMinute();
        switch (kind) {
            case 5 -> {
                int year = pick(11);
                compare(where + "first " + year, () -> tables.first(year), () -> first(year));
                compare(where + "year " + minute, () -> tables.year(minute), () -> year(minute));
            }
            case 6 -> {
                int i = pick(8);
                compare(where + "position " + i + " " + minute,
                        () -> tables.position(i, minute), () -> position(i, minute));
            }
            case 7 -> {
                long x = random.nextInt(4) == 0
                        ? random.nextInt(6) * (1L << 46) + random.nextInt(5) * 32768L - 65536
                        : pickLong(1L << 48);
                compare(where + "cosine " + x, () -> tables.cosine(x), () -> cosine(x));
            }
            case 8 -> compare(where + "height " + minute,
                    () -> tables.height(minute), () -> height(minute));
            default -> askMinutes(where, minute);
        }
    }

    private void askMinutes(String where, int minute) {
        if (random.nextBoolean()) {
            int n = random.nextBoolean() ? pick(20) : pick(2001);
            compare(where + "mean " + minute + " " + n,
                    () -> tables.mean(minute, n), () -> mean(minute, n));
            return;
        }
        int near = minute < 0 || minute >= first(10) ? 0 : height(minute);
        int v = near + random.nextInt(2 * (Math.abs(near - level) / 2 + 2)) - Math.abs(near - level) / 2 - 2;
        int span = random.nextBoolean() ? pick(60) : pick(1001);
        compare(where + "above " + minute + " " + v + " " + span,
                () -> tables.above(minute, v, span), () -> above(minute, v, span));
    }

    private void askADay(String where, int kind) {
        int day = random.nextInt(3) == 0 ? pick(first(10) / 1440) : homeDay;
        List<int[]> found = day < 0 || day >= first(10) / 1440 ? List.of() : extremes(day);
        compare(where + "extremes " + day,
                () -> tables.extremes(day), () -> countOfExtremes(day, found));
        int k = pick(Math.max(1, found.size()));
        int what = random.nextInt(10) == 0 ? random.nextInt(7) - 2 : random.nextInt(3);
        if (kind < 13) {
            compare(where + "extreme " + day + " " + k + " " + what,
                    () -> tables.extreme(day, k, what), () -> extreme(found, k, what));
            return;
        }
        compare(where + "line " + day + " " + k,
                () -> tables.line(day, k), () -> line(found, k).length());
        for (int j = -1; j < 28; j++) {
            int at = j;
            compare(where + "sign " + day + " " + k + " " + at,
                    () -> tables.sign(day, k, at), () -> sign(found, k, at));
        }
    }

    // Arguments: mostly 0 .. n - 1, at times an edge or beside it.

    private int pick(int n) {
        int[] edges = {-1, 0, n - 1, n, n + 1, Integer.MIN_VALUE, Integer.MAX_VALUE};
        return random.nextInt(12) == 0 ? edges[random.nextInt(edges.length)] : random.nextInt(n);
    }

    private long pickLong(long n) {
        long[] edges = {-1, 0, n - 1, n, Long.MIN_VALUE, Long.MAX_VALUE};
        return random.nextInt(12) == 0
                ? edges[random.nextInt(edges.length)]
                : Math.floorMod(random.nextLong(), n);
    }

    private int pickMinute() {
        if (random.nextInt(3) == 0) {
            // Beside the first minute of a year, or the end of all.
            return first(random.nextInt(11)) + random.nextInt(7) - 3;
        }
        if (random.nextInt(6) == 0) {
            return first(10) - random.nextInt(4100);
        }
        return pick(first(10));
    }

    // The model

    private static void index(boolean good) {
        if (!good) {
            throw new IndexOutOfBoundsException();
        }
    }

    private static void argument(boolean good) {
        if (!good) {
            throw new IllegalArgumentException();
        }
    }

    private static boolean within(long v, long least, long most) {
        return least <= v && v <= most;
    }

    private int level(int v) {
        argument(within(v, -1000000, 1000000));
        int had = level;
        level = v;
        return had;
    }

    private void constituent(int i, int amplitude, long speed, long phase) {
        index(within(i, 0, 7));
        argument(within(amplitude, 0, 100000));
        argument(within(speed, 0, 1099511627775L));
        argument(within(phase, 0, 281474976710655L));
        constituents[i] = new long[] {amplitude, speed, phase};
    }

    private void node(int i, int year, int factor, long shift) {
        index(within(i, 0, 7));
        index(within(year, 0, 9));
        argument(within(factor, 0, 81920));
        argument(within(shift, 0, 281474976710655L));
        factors[i][year] = factor;
        shifts[i][year] = shift;
    }

    private int days(int year, int n) {
        index(within(year, 0, 9));
        argument(n == 365 || n == 366);
        int had = days[year];
        days[year] = n;
        return had;
    }

    private int first(int year) {
        index(within(year, 0, 10));
        int sum = 0;
        for (int y = 0; y < year; y++) {
            sum += days[y];
        }
        return sum * 1440;
    }

    private int year(int minute) {
        for (int y = 0; y < 10; y++) {
            if (within(minute, first(y), first(y + 1) - 1)) {
                return y;
            }
        }
        throw new IndexOutOfBoundsException();
    }

    private BigInteger position(int i, int minute) {
        index(within(i, 0, 7));
        return position(i, minute, year(minute));
    }

    private BigInteger position(int i, int minute, int year) {
        return BigInteger.valueOf(constituents[i][2])
                .add(BigInteger.valueOf(constituents[i][1]).multiply(BigInteger.valueOf(minute)))
                .add(BigInteger.valueOf(shifts[i][year]))
                .mod(TURN);
    }

    private static BigInteger down(BigInteger number, BigInteger by) {
        return number.subtract(number.mod(by)).divide(by);
    }

    private static BigInteger cosine(long x) {
        argument(within(x, 0, 281474976710655L));
        long q = x / (1L << 46);
        BigInteger r = BigInteger.valueOf(x / 65536).mod(ONE);
        if (q == 1 || q == 3) {
            r = ONE.subtract(r);
        }
        BigInteger s = down(r.multiply(r), ONE);
        BigInteger sum = BigInteger.valueOf(960477);
        for (long next : new long[] {22401992, 272375561, 1324675870, 1073741824}) {
            sum = BigInteger.valueOf(next).subtract(down(sum.multiply(s), ONE));
        }
        return q == 1 || q == 2 ? sum.negate() : sum;
    }

    private int height(int minute) {
        int year = year(minute);
        BigInteger sum = BigInteger.ZERO;
        for (int i = 0; i < 8; i++) {
            BigInteger part = BigInteger.valueOf(constituents[i][0])
                    .multiply(BigInteger.valueOf(factors[i][year]))
                    .multiply(cosine(position(i, minute, year).longValueExact()));
            sum = sum.add(down(part, BigInteger.valueOf(65536)));
        }
        return down(sum.add(BigInteger.TWO.pow(29)), ONE).intValueExact() + level;
    }

    private BigInteger mean(int minute, int n) {
        argument(within(n, 1, 2000));
        index(minute >= 0 && (long) minute + n <= first(10));
        BigInteger sum = BigInteger.ZERO;
        for (int m = minute; m < minute + n; m++) {
            sum = sum.add(BigInteger.valueOf(height(m)));
        }
        return down(sum, BigInteger.valueOf(n));
    }

    /** Rows of minute, height and kind. */
    private List<int[]> extremes(int day) {
        int start = day * 1440;
        int end = start + 1440;
        int[] heights = new int[1440];
        Arrays.setAll(heights, m -> height(start + m));
        IntUnaryOperator at = m -> heights[m - start];
        List<int[]> found = new ArrayList<>();
        for (int m = start + 1; m < end; m++) {
            int h = at.applyAsInt(m);
            int behind = m;
            while (behind < end && at.applyAsInt(behind) == h) {
                behind++;
            }
            int before = at.applyAsInt(m - 1);
            if (before == h || behind == end) {
                continue;
            }
            if (before < h && at.applyAsInt(behind) < h) {
                found.add(new int[] {m, h, 1});
            }
            if (before > h && at.applyAsInt(behind) > h) {
                found.add(new int[] {m, h, 0});
            }
        }
        return found;
    }

    private int countOfExtremes(int day, List<int[]> found) {
        index(day >= 0 && day < first(10) / 1440);
        return found.size();
    }

    private static int extreme(List<int[]> found, int k, int what) {
        index(within(k, 0, found.size() - 1));
        argument(within(what, 0, 2));
        return found.get(k)[what];
    }

    private String line(List<int[]> found, int k) {
        int minute = extreme(found, k, 0);
        int height = extreme(found, k, 1);
        int inYear = minute - first(year(minute));
        return String.format("%d %03d %02d:%02d %s %s%d.%04d", year(minute), inYear / 1440,
                inYear % 1440 / 60, inYear % 60, extreme(found, k, 2) == 1 ? "HIGH" : "LOW",
                height < 0 ? "-" : "", Math.abs(height) / 10000, Math.abs(height) % 10000);
    }

    private int sign(List<int[]> found, int k, int j) {
        String line = line(found, k);
        index(within(j, 0, line.length() - 1));
        return line.charAt(j);
    }

    private int above(int minute, int v, int span) {
        argument(within(span, 1, 1000));
        year(minute);
        int end = Math.min(first(10), minute + 3999);
        boolean[] enough = new boolean[end - minute];
        for (int m = minute; m < end; m++) {
            enough[m - minute] = height(m) >= v;
        }
        for (int from = 0; from < 3000 && from + span <= enough.length; from++) {
            int length = 0;
            while (length < span && enough[from + length]) {
                length++;
            }
            if (length == span) {
                return minute + from;
            }
        }
        return -1;
    }
}
