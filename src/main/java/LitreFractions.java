/** Amounts of a brewery as exact fractions with units. README.md tells where each call's answers are written down. */
public final class LitreFractions {
    public static final int NONE = -1;

    private static final int NOT_MADE = -2;
    private static final int NO_SUCH = -3;
    private static final long NOT_TOLD = -9;

    private static final int NUMBER = 0;
    private static final int LITRES = 1;
    private static final int KILOGRAMS = 2;
    private static final int EXTRACT = 3;
    private static final int ALCOHOL = 4;

    private static final int DOWNWARD = 0;
    private static final int UPWARD = 1;
    private static final int TO_ZERO = 2;
    private static final int FROM_ZERO = 3;
    private static final int HALF_UPWARD = 4;
    private static final int HALF_FROM_ZERO = 5;
    private static final int HALF_TO_EVEN = 6;

    private static final int MOST_AMOUNTS = 500;
    private static final int MOST_WEIGHTS = 16;
    private static final int MOST_ROWS = 16;
    private static final int TABLES = 4;

    private static final long LARGEST = 2147483647L;
    private static final long TOO_FAR = 1000000000000000000L;
    private static final long FINEST = 1000000000L;
    private static final long HEAVIEST = 1000000L;
    private static final long ROW_LARGEST = 10000L;
    private static final long ROW_FINEST = 100L;
    private static final long THOUSAND = 1000L;

    private static final int DIGITS_BEFORE = 10;
    private static final int DIGITS_BEHIND = 30;

    /** Numbers below 2^63 have their common divisor after fewer than a hundred steps. */
    private static final int DIVISOR_STEPS = 1000;

    private final long[] aboves;
    private final long[] belows;
    private final int[] units;
    private int amountCount;

    private final long[] weights;
    private int weightCount;

    private final Table[] tables;

    public LitreFractions() {
        aboves = new long[MOST_AMOUNTS];
        belows = new long[MOST_AMOUNTS];
        units = new int[MOST_AMOUNTS];
        weights = new long[MOST_WEIGHTS];
        tables = new Table[TABLES];
        for (int i = 0; i < TABLES; i++) {
            tables[i] = new Table();
        }
    }

    public int value(long above, long below, int unit) throws ArithmeticException {
        if (below == 0) {
            throw new ArithmeticException("below is 0");
        }
        if (unit < NUMBER || unit > ALCOHOL || isTooFar(above) || isTooFar(below)) {
            return NO_SUCH;
        }
        return keep(above, below, unit);
    }

    public int add(int a, int b) {
        if (!isAmount(a) || !isAmount(b)) {
            return NO_SUCH;
        }
        if (units[a] != units[b]) {
            return NONE;
        }
        // Even at their largest, two products of amounts' parts sum to less than 2^63.
        return keep(aboves[a] * belows[b] + aboves[b] * belows[a], belows[a] * belows[b], units[a]);
    }

    public int times(int a, int b) {
        if (!isAmount(a) || !isAmount(b)) {
            return NO_SUCH;
        }
        int unit = unitOfProduct(units[a], units[b]);
        if (unit == NONE) {
            return NONE;
        }
        return keep(aboves[a] * aboves[b], belows[a] * belows[b], unit);
    }

    public int over(int a, int b) throws ArithmeticException {
        if (!isAmount(a) || !isAmount(b)) {
            return NO_SUCH;
        }
        int unit = unitOfQuotient(units[a], units[b]);
        if (unit == NONE) {
            return NONE;
        }
        if (aboves[b] == 0) {
            throw new ArithmeticException("the divisor is 0");
        }
        return keep(aboves[a] * belows[b], belows[a] * aboves[b], unit);
    }

    public int round(int a, int rule, long unit) {
        if (!isAmount(a)) {
            return NO_SUCH;
        }
        if (rule < DOWNWARD || rule > HALF_TO_EVEN || unit < 1 || unit > FINEST) {
            return NONE;
        }
        long scaled = aboves[a] * unit;
        long lower = quotientDown(scaled, belows[a]);
        long rest = restOf(scaled, belows[a]);
        long multiple = goesUp(rule, lower, rest, belows[a]) ? lower + 1 : lower;
        return keep(multiple, unit, units[a]);
    }

    public int order(int a, int b) {
        if (!isAmount(a) || !isAmount(b)) {
            return NO_SUCH;
        }
        if (units[a] != units[b]) {
            return 2;
        }
        long left = aboves[a] * belows[b];
        long right = aboves[b] * belows[a];
        return left < right ? -1 : left > right ? 1 : 0;
    }

    public boolean row(int table, long xAbove, long yAbove, long below) {
        Table rows = tableAt(table);
        if (rows == null || !rows.takes(xAbove, yAbove, below)) {
            return false;
        }
        rows.append(xAbove, yAbove, below);
        return true;
    }

    public int join(int table, int a) {
        Table rows = tableAt(table);
        if (rows == null || !isAmount(a)) {
            return NO_SUCH;
        }
        if (rows.count == 0) {
            return NONE;
        }
        int next = rows.firstNotBefore(aboves[a], belows[a]);
        if (next == 0) {
            return keep(rows.ys[0], rows.below, NUMBER);
        }
        if (next >= rows.count) {
            return keep(rows.ys[rows.count - 1], rows.below, NUMBER);
        }
        return keepBetween(rows, next, a);
    }

    public boolean weight(long w) {
        if (w < 0 || w > HEAVIEST || weightCount >= MOST_WEIGHTS) {
            return false;
        }
        weights[weightCount] = w;
        weightCount++;
        return true;
    }

    public int share(int a, int k) {
        if (!isAmount(a) || k < 0 || k >= weightCount) {
            return NO_SUCH;
        }
        long all = sumOfWeights();
        if (aboves[a] < 0 || all == 0) {
            return NONE;
        }
        long scaled = aboves[a] * THOUSAND;
        long below = belows[a];
        long mine = thousandthsOf(k, quotientDown(scaled, below), all);
        if (k > 0) {
            return keep(mine, THOUSAND, units[a]);
        }
        return keep(mine * below + restOf(scaled, below), THOUSAND * below, units[a]);
    }

    public int digit(int a, int part, int i) throws IndexOutOfBoundsException {
        if (!isAmount(a)) {
            return NO_SUCH;
        }
        long size = Math.abs(aboves[a]);
        long below = belows[a];
        int found = part == 0
                ? digitBefore(quotientDown(size, below), i)
                : digitBehind(restOf(size, below), below, i);
        if (found == NONE) {
            throw new IndexOutOfBoundsException("there is no such digit");
        }
        return found;
    }

    public long told(int a, int what) {
        switch (what) {
            case 0:
                return isAmount(a) ? aboves[a] : NOT_TOLD;
            case 1:
                return isAmount(a) ? belows[a] : NOT_TOLD;
            case 2:
                return isAmount(a) ? units[a] : NOT_TOLD;
            case 3:
                return amountCount;
            case 4:
                return weightCount;
            case 5:
                Table rows = tableAt(a);
                return rows == null ? NOT_TOLD : rows.count;
            default:
                return NOT_TOLD;
        }
    }

    public void clear() {
        amountCount = 0;
        weightCount = 0;
        for (int i = 0; i < TABLES; i++) {
            Table rows = tableAt(i);
            if (rows != null) {
                rows.count = 0;
            }
        }
    }

    private boolean isAmount(int a) {
        return a >= 0 && a < amountCount;
    }

    private Table tableAt(int table) {
        return table >= 0 && table < TABLES ? tables[table] : null;
    }

    private static boolean isTooFar(long part) {
        return part <= -TOO_FAR || part >= TOO_FAR;
    }

    /** Every amount is made here, so that all of them are in lowest terms with a below of 1 or more. */
    private int keep(long above, long below, int unit) {
        long common = commonDivisor(above, below);
        if (common < 1 || amountCount >= MOST_AMOUNTS) {
            return NOT_MADE;
        }
        long divisor = below < 0 ? -common : common;
        long lowAbove = above / divisor;
        long lowBelow = below / divisor;
        if (lowAbove < -LARGEST || lowAbove > LARGEST || lowBelow < 1 || lowBelow > LARGEST) {
            return NOT_MADE;
        }
        aboves[amountCount] = lowAbove;
        belows[amountCount] = lowBelow;
        units[amountCount] = unit;
        amountCount++;
        return amountCount - 1;
    }

    private static long commonDivisor(long x, long y) {
        long more = Math.abs(x);
        long less = Math.abs(y);
        for (int step = 0; step < DIVISOR_STEPS && less != 0; step++) {
            long rest = more % less;
            more = less;
            less = rest;
        }
        return more;
    }

    /** A divisor below 1 never comes; the test stands here so that no division can make the machine throw. */
    private static long quotientDown(long x, long divisor) {
        return divisor < 1 ? 0 : Math.floorDiv(x, divisor);
    }

    /** What quotientDown leaves: 0 or more, less than the divisor. */
    private static long restOf(long x, long divisor) {
        return divisor < 1 ? 0 : Math.floorMod(x, divisor);
    }

    private static int unitOfProduct(int u, int v) {
        if (u == NUMBER || isShareOf(u, v)) {
            return v;
        }
        if (v == NUMBER || isShareOf(v, u)) {
            return u;
        }
        return NONE;
    }

    private static int unitOfQuotient(int u, int v) {
        if (u == v) {
            return NUMBER;
        }
        if (v == NUMBER || isShareOf(v, u)) {
            return u;
        }
        return NONE;
    }

    private static boolean isShareOf(int part, int whole) {
        return (part == EXTRACT && whole == KILOGRAMS) || (part == ALCOHOL && whole == LITRES);
    }

    /** Whether lower + rest / below is rounded to lower + 1; as lower is rounded down, its sign tells the amount's. */
    private static boolean goesUp(int rule, long lower, long rest, long below) {
        if (rest == 0) {
            return false;
        }
        int half = Long.compare(2 * rest, below);
        switch (rule) {
            case UPWARD:
                return true;
            case TO_ZERO:
                return lower < 0;
            case FROM_ZERO:
                return lower >= 0;
            case HALF_UPWARD:
                return half >= 0;
            case HALF_FROM_ZERO:
                return half > 0 || (half == 0 && lower >= 0);
            case HALF_TO_EVEN:
                return half > 0 || (half == 0 && (lower & 1) == 1);
            default:
                return false;
        }
    }

    /** The amount lies behind row next - 1 and not behind row next. */
    private int keepBetween(Table rows, int next, int a) {
        long run = rows.xs[next] - rows.xs[next - 1];
        long rise = rows.ys[next] - rows.ys[next - 1];
        long way = aboves[a] * rows.below - rows.xs[next - 1] * belows[a];
        long above = rows.ys[next - 1] * run * belows[a] + rise * way;
        return keep(above, run * belows[a] * rows.below, NUMBER);
    }

    private long sumOfWeights() {
        long all = 0;
        for (int i = 0; i < weightCount; i++) {
            all += weights[i];
        }
        return all;
    }

    /** Those left over go by rank, and a weight's rank is how many come before it: no sorting is needed. */
    private long thousandthsOf(int k, long thousandths, long all) {
        long gross = thousandths * weights[k];
        long rest = restOf(gross, all);
        long rests = 0;
        long rank = 0;
        for (int i = 0; i < weightCount; i++) {
            long other = restOf(thousandths * weights[i], all);
            rests += other;
            if (other > rest || (other == rest && i < k)) {
                rank++;
            }
        }
        long left = quotientDown(rests, all);
        long own = quotientDown(gross, all);
        return rank < left ? own + 1 : own;
    }

    private static int digitBefore(long whole, int i) {
        if (i < 0 || i >= DIGITS_BEFORE) {
            return NONE;
        }
        long upper = whole;
        for (int at = 0; at < i; at++) {
            upper /= 10;
        }
        return i > 0 && upper == 0 ? NONE : (int) (upper % 10);
    }

    /** The digits end where nothing is left to divide; an amount's below allows at most 30 if they end at all. */
    private static int digitBehind(long rest, long below, int i) {
        if (i < 0 || i >= DIGITS_BEHIND) {
            return NONE;
        }
        long left = rest;
        for (int at = 0; at < i; at++) {
            left = restOf(left * 10, below);
        }
        return left == 0 ? NONE : (int) quotientDown(left * 10, below);
    }

    /** Rows in rising order of x, all over one below. */
    private static final class Table {
        private final long[] xs = new long[MOST_ROWS];
        private final long[] ys = new long[MOST_ROWS];
        private long below;
        private int count;

        private boolean takes(long x, long y, long rowBelow) {
            if (count >= MOST_ROWS || rowBelow < 1 || rowBelow > ROW_FINEST) {
                return false;
            }
            if (!isInside(x) || !isInside(y)) {
                return false;
            }
            return count == 0 || (rowBelow == below && x > xs[count - 1]);
        }

        private static boolean isInside(long part) {
            return part >= -ROW_LARGEST && part <= ROW_LARGEST;
        }

        private void append(long x, long y, long rowBelow) {
            if (count >= MOST_ROWS) {
                return;
            }
            xs[count] = x;
            ys[count] = y;
            below = rowBelow;
            count++;
        }

        /** The first row whose x is not less than the amount, or count if there is none. */
        private int firstNotBefore(long amountAbove, long amountBelow) {
            long sought = amountAbove * below;
            int at = 0;
            while (at < count && xs[at] * amountBelow < sought) {
                at++;
            }
            return at;
        }
    }
}
