/** Promise 6: round. */
public final class Promise06RoundTest {
    private static final long LARGEST = Sample.LARGEST;
    private static final long FINEST = 1000000000L;

    /** The amount above / 4, and what each rule makes of it with unit 1. */
    private static final long[][] QUARTERS = {
        {-11, -3, -2, -2, -3, -3, -3, -3},
        {-10, -3, -2, -2, -3, -2, -3, -2},
        {-9, -3, -2, -2, -3, -2, -2, -2},
        {-8, -2, -2, -2, -2, -2, -2, -2},
        {-6, -2, -1, -1, -2, -1, -2, -2},
        {-4, -1, -1, -1, -1, -1, -1, -1},
        {-3, -1, 0, 0, -1, -1, -1, -1},
        {-2, -1, 0, 0, -1, 0, -1, 0},
        {-1, -1, 0, 0, -1, 0, 0, 0},
        {0, 0, 0, 0, 0, 0, 0, 0},
        {1, 0, 1, 0, 1, 0, 0, 0},
        {2, 0, 1, 0, 1, 1, 1, 0},
        {3, 0, 1, 0, 1, 1, 1, 1},
        {4, 1, 1, 1, 1, 1, 1, 1},
        {6, 1, 2, 1, 2, 2, 2, 2},
        {8, 2, 2, 2, 2, 2, 2, 2},
        {9, 2, 3, 2, 3, 2, 2, 2},
        {10, 2, 3, 2, 3, 3, 3, 2},
        {11, 2, 3, 2, 3, 3, 3, 3},
    };

    /** The amount above / 2147483647, which lies as near to 0, 1/2 or 1 as an amount can, and what each rule makes of it. */
    private static final long[][] NEAR = {
        {1, 0, 1, 0, 1, 0, 0, 0},
        {-1, -1, 0, 0, -1, 0, 0, 0},
        {1073741823, 0, 1, 0, 1, 0, 0, 0},
        {1073741824, 0, 1, 0, 1, 1, 1, 1},
        {-1073741823, -1, 0, 0, -1, 0, 0, 0},
        {-1073741824, -1, 0, 0, -1, -1, -1, -1},
        {LARGEST - 1, 0, 1, 0, 1, 1, 1, 1},
        {1 - LARGEST, -1, 0, 0, -1, -1, -1, -1},
    };

    public static void main(String[] args) {
        rules(QUARTERS, 4);
        rules(NEAR, LARGEST);
        ofTheAmountsUnit();
        otherMultiples();
        halvesOfTheFinest();
        aMultipleStays();
        noSuchAmount();
        noSuchRule();
        noSuchUnit();
        tooLarge();
        farBeyondAnInt();
        Due.end();
    }

    private static void rules(long[][] lines, long below) {
        Due.sentence("0 downward, 1 upward, 2 to 0, 3 away from 0, 4 to the nearest, a half upward,"
                + " 5 a half away from 0, 6 a half to the even multiple");
        for (long[] line : lines) {
            LitreFractions x = new LitreFractions();
            int a = x.value(line[0], below, 1);
            for (int rule = 0; rule < 7; rule++) {
                Due.amount(x, x.round(a, rule, 1), line[rule + 1], 1, 1);
            }
        }
    }

    private static void ofTheAmountsUnit() {
        Due.sentence("An amount of a's unit");
        LitreFractions x = new LitreFractions();
        for (int unit = 0; unit < 5; unit++) {
            Due.amount(x, x.round(x.value(5, 3, unit), 1, 1), 2, 1, unit);
        }
    }

    private static void otherMultiples() {
        Due.sentence("a rounded to a multiple of 1 / unit");
        LitreFractions x = new LitreFractions();
        int third = x.value(1, 3, 0);
        Due.amount(x, x.round(third, 0, 10), 3, 10, 0);
        Due.amount(x, x.round(third, 1, 10), 2, 5, 0);
        Due.amount(x, x.round(third, 4, 3), 1, 3, 0);
        int eighth = x.value(1, 8, 0);
        int threeEighths = x.value(3, 8, 0);
        Due.amount(x, x.round(eighth, 6, 4), 0, 1, 0);
        Due.amount(x, x.round(threeEighths, 6, 4), 1, 2, 0);
        Due.amount(x, x.round(threeEighths, 0, 4), 1, 4, 0);
        Due.amount(x, x.round(third, 4, FINEST), 333333333, FINEST, 0);
        Due.amount(x, x.round(third, 1, FINEST), 166666667, 500000000, 0);
    }

    private static void halvesOfTheFinest() {
        Due.sentence("4 to the nearest, a half upward, 5 a half away from 0, 6 a half to the even multiple");
        LitreFractions x = new LitreFractions();
        int half = x.value(1, 2 * FINEST, 0);
        int minusHalf = x.value(-1, 2 * FINEST, 0);
        int three = x.value(3, 2 * FINEST, 0);
        int minusThree = x.value(-3, 2 * FINEST, 0);
        Due.amount(x, x.round(half, 4, FINEST), 1, FINEST, 0);
        Due.amount(x, x.round(half, 5, FINEST), 1, FINEST, 0);
        Due.amount(x, x.round(half, 6, FINEST), 0, 1, 0);
        Due.amount(x, x.round(minusHalf, 4, FINEST), 0, 1, 0);
        Due.amount(x, x.round(minusHalf, 5, FINEST), -1, FINEST, 0);
        Due.amount(x, x.round(minusHalf, 6, FINEST), 0, 1, 0);
        Due.amount(x, x.round(three, 6, FINEST), 1, FINEST / 2, 0);
        Due.amount(x, x.round(minusThree, 4, FINEST), -1, FINEST, 0);
        Due.amount(x, x.round(minusThree, 5, FINEST), -1, FINEST / 2, 0);
        Due.amount(x, x.round(minusThree, 6, FINEST), -1, FINEST / 2, 0);
    }

    private static void aMultipleStays() {
        Due.sentence("a rounded to a multiple of 1 / unit");
        LitreFractions x = new LitreFractions();
        int a = x.value(-7, 5, 2);
        int zero = x.value(0, 1, 2);
        for (int rule = 0; rule < 7; rule++) {
            Due.amount(x, x.round(a, rule, 5), -7, 5, 2);
            Due.amount(x, x.round(a, rule, FINEST), -7, 5, 2);
            Due.amount(x, x.round(zero, rule, 1), 0, 1, 2);
        }
    }

    private static void noSuchAmount() {
        Due.sentence("-3 there is no such amount");
        LitreFractions x = new LitreFractions();
        Due.isRefused(x, "none at all", () -> x.round(0, 0, 1), -3);
        x.value(3, 2, 1);
        x.value(5, 2, 2);
        for (int a : Sample.noAmounts(2)) {
            Due.isRefused(x, "round(" + a + ", 0, 1)", () -> x.round(a, 0, 1), -3);
            Due.isRefused(x, "round(" + a + ", 7, 0)", () -> x.round(a, 7, 0), -3);
        }
        Due.amount(x, x.round(0, 0, 1), 1, 1, 1);
        Due.amount(x, x.round(1, 0, 1), 2, 1, 2);
    }

    private static void noSuchRule() {
        Due.sentence("-1 the rule is not 0 .. 6");
        LitreFractions x = new LitreFractions();
        int a = x.value(3, 2, 1);
        int[] rules = {-1, 7, Integer.MIN_VALUE, Integer.MAX_VALUE};
        for (int rule : rules) {
            Due.isRefused(x, "rule " + rule, () -> x.round(a, rule, 1), -1);
        }
        Due.amount(x, x.round(a, 0, 1), 1, 1, 1);
        Due.amount(x, x.round(a, 6, 1), 2, 1, 1);
    }

    private static void noSuchUnit() {
        Due.sentence("-1 .. the unit not 1 .. 1,000,000,000");
        LitreFractions x = new LitreFractions();
        int a = x.value(3, 2, 1);
        long[] units = {0, -1, FINEST + 1, 4294967297L, Long.MIN_VALUE, Long.MAX_VALUE};
        for (long unit : units) {
            Due.isRefused(x, "unit " + unit, () -> x.round(a, 0, unit), -1);
        }
        Due.amount(x, x.round(a, 0, 1), 1, 1, 1);
        Due.amount(x, x.round(a, 0, FINEST), 3, 2, 1);
    }

    private static void tooLarge() {
        Due.sentence("both (the above without its sign) at most 2147483647 .. -2");
        LitreFractions x = new LitreFractions();
        // Three times this is 2147483647 and a half.
        int a = x.value(1431655765, 2, 0);
        int minus = x.value(-1431655765, 2, 0);
        Due.amount(x, x.round(a, 0, 3), LARGEST, 3, 0);
        Due.isRefused(x, "2147483648 / 3", () -> x.round(a, 1, 3), -2);
        Due.isRefused(x, "a half to the even 2147483648 / 3", () -> x.round(a, 6, 3), -2);
        Due.amount(x, x.round(minus, 1, 3), -LARGEST, 3, 0);
        Due.isRefused(x, "-2147483648 / 3", () -> x.round(minus, 0, 3), -2);
        int seventh = x.value(LARGEST, 7, 0);
        Due.isRefused(x, "far too large", () -> x.round(seventh, 0, FINEST), -2);
    }

    private static void farBeyondAnInt() {
        Due.sentence("a rounded to a multiple of 1 / unit");
        LitreFractions x = new LitreFractions();
        int large = x.value(LARGEST, 1, 0);
        int least = x.value(-LARGEST, 1, 0);
        int half = x.value(LARGEST, 2, 0);
        int finest = x.value(1, LARGEST, 0);
        for (int rule = 0; rule < 7; rule++) {
            Due.amount(x, x.round(large, rule, FINEST), LARGEST, 1, 0);
            Due.amount(x, x.round(least, rule, FINEST), -LARGEST, 1, 0);
            Due.amount(x, x.round(half, rule, FINEST), LARGEST, 2, 0);
        }
        Due.amount(x, x.round(half, 6, 1), 1073741824, 1, 0);
        Due.amount(x, x.round(half, 0, 1), 1073741823, 1, 0);
        Due.amount(x, x.round(finest, 0, FINEST), 0, 1, 0);
        Due.amount(x, x.round(finest, 4, FINEST), 0, 1, 0);
        Due.amount(x, x.round(finest, 1, FINEST), 1, FINEST, 0);
    }
}
