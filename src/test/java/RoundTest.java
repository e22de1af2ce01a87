/** Promise 6: rounding to a multiple of 1 / unit by seven rules. */
public final class RoundTest {
    private static final long LARGEST = 2147483647L;

    /** The amount above / 4, and what each rule makes of it with unit 1. */
    private static final long[][] QUARTERS = {
        {-11, -3, -2, -2, -3, -3, -3, -3},
        {-10, -3, -2, -2, -3, -2, -3, -2},
        {-9, -3, -2, -2, -3, -2, -2, -2},
        {-8, -2, -2, -2, -2, -2, -2, -2},
        {-6, -2, -1, -1, -2, -1, -2, -2},
        {-4, -1, -1, -1, -1, -1, -1, -1},
        {-3, -1, 0, 0, -1, -1, -1, -1},
        {-2, -1, 0, 0, -1, 0, -1, 0},
        {-1, -1, 0, 0, -1, 0, 0, 0},
        {0, 0, 0, 0, 0, 0, 0, 0},
        {1, 0, 1, 0, 1, 0, 0, 0},
        {2, 0, 1, 0, 1, 1, 1, 0},
        {3, 0, 1, 0, 1, 1, 1, 1},
        {4, 1, 1, 1, 1, 1, 1, 1},
        {6, 1, 2, 1, 2, 2, 2, 2},
        {8, 2, 2, 2, 2, 2, 2, 2},
        {9, 2, 3, 2, 3, 2, 2, 2},
        {10, 2, 3, 2, 3, 3, 3, 2},
        {11, 2, 3, 2, 3, 3, 3, 3},
    };

    public static void main(String[] args) {
        rules();
        unitsOfAmounts();
        otherMultiples();
        wrongCalls();
        limits();
        Due.end();
    }

    private static void rules() {
        for (long[] line : QUARTERS) {
            LitreFractions x = new LitreFractions();
            int a = x.value(line[0], 4, 1);
            for (int rule = 0; rule < 7; rule++) {
                Due.amount(x, x.round(a, rule, 1), line[rule + 1], 1, 1);
            }
        }
    }

    private static void unitsOfAmounts() {
        LitreFractions x = new LitreFractions();
        for (int unit = 0; unit < 5; unit++) {
            Due.amount(x, x.round(x.value(5, 3, unit), 1, 1), 2, 1, unit);
        }
    }

    private static void otherMultiples() {
        LitreFractions x = new LitreFractions();
        int third = x.value(1, 3, 0);
        Due.amount(x, x.round(third, 0, 10), 3, 10, 0);
        Due.amount(x, x.round(third, 1, 10), 2, 5, 0);
        Due.amount(x, x.round(third, 4, 3), 1, 3, 0);
        int eighth = x.value(1, 8, 0);
        Due.amount(x, x.round(eighth, 6, 4), 0, 1, 0);
        int threeEighths = x.value(3, 8, 0);
        Due.amount(x, x.round(threeEighths, 6, 4), 1, 2, 0);
        Due.amount(x, x.round(threeEighths, 0, 4), 1, 4, 0);
        Due.amount(x, x.round(third, 4, 1000000000L), 333333333, 1000000000, 0);
        Due.amount(x, x.round(third, 1, 1000000000L), 166666667, 500000000, 0);
    }

    private static void wrongCalls() {
        LitreFractions x = new LitreFractions();
        Due.is("no amounts", x.round(0, 0, 1), -3);
        x.value(1, 2, 0);
        Due.is("no such amount", x.round(1, 0, 1), -3);
        Due.is("a negative amount's number", x.round(-1, 0, 1), -3);
        Due.is("-3 is told before -1", x.round(1, 7, 0), -3);
        int[] rules = {-1, 7, Integer.MIN_VALUE, Integer.MAX_VALUE};
        for (int rule : rules) {
            Due.is("rule " + rule, x.round(0, rule, 1), -1);
        }
        long[] units = {0, -1, 1000000001L, 4294967297L, Long.MIN_VALUE, Long.MAX_VALUE};
        for (long unit : units) {
            Due.is("unit " + unit, x.round(0, 0, unit), -1);
        }
        Due.is("nothing was made", x.told(0, 3), 1);
    }

    private static void limits() {
        LitreFractions x = new LitreFractions();
        int large = x.value(LARGEST, 1, 0);
        int small = x.value(-LARGEST, 1, 0);
        int near = x.value(LARGEST, 2, 0);
        int third = x.value(LARGEST, 7, 0);
        int thirdBelow = x.value(-LARGEST, 7, 0);
        Due.amount(x, x.round(large, 3, 1000000000L), LARGEST, 1, 0);
        Due.amount(x, x.round(small, 3, 1000000000L), -LARGEST, 1, 0);
        Due.amount(x, x.round(near, 6, 1), 1073741824, 1, 0);
        Due.is("too large", x.round(third, 0, 1000000000L), -2);
        Due.is("too small", x.round(thirdBelow, 0, 1000000000L), -2);
        int finest = x.value(1, LARGEST, 0);
        Due.amount(x, x.round(finest, 1, 1000000000L), 1, 1000000000L, 0);
        Due.amount(x, x.round(finest, 0, 1000000000L), 0, 1, 0);
    }
}
