/** Promise 4: times. */
public final class Promise04TimesTest {
    private static final int NUMBER = Sample.NUMBER;
    private static final int LITRES = Sample.LITRES;
    private static final int KILOGRAMS = Sample.KILOGRAMS;
    private static final int EXTRACT = Sample.EXTRACT;
    private static final int ALCOHOL = Sample.ALCOHOL;
    private static final long LARGEST = Sample.LARGEST;

    private static final int[][] UNITS = {
        {NUMBER, LITRES, KILOGRAMS, EXTRACT, ALCOHOL},
        {LITRES, -1, -1, -1, LITRES},
        {KILOGRAMS, -1, -1, KILOGRAMS, -1},
        {EXTRACT, -1, KILOGRAMS, -1, -1},
        {ALCOHOL, LITRES, -1, -1, -1},
    };

    public static void main(String[] args) {
        theProduct();
        units();
        noSuchAmount();
        aboveTooLarge();
        belowTooLarge();
        Due.end();
    }

    private static void theProduct() {
        Due.sentence("The product");
        LitreFractions x = new LitreFractions();
        int a = x.value(-4, 9, NUMBER);
        int b = x.value(3, 8, LITRES);
        Due.amount(x, x.times(a, b), -1, 6, LITRES);
        Due.amount(x, x.times(b, a), -1, 6, LITRES);
        Due.amount(x, x.times(a, a), 16, 81, NUMBER);
        Due.amount(x, x.times(x.value(0, 1, NUMBER), b), 0, 1, LITRES);
    }

    private static void units() {
        Due.sentence("A number with any amount has that one's unit, kilograms and a share of extract have kilograms,"
                + " litres and a share of alcohol litres .. -1 other units");
        for (int u = 0; u < 5; u++) {
            for (int v = 0; v < 5; v++) {
                LitreFractions x = new LitreFractions();
                int a = x.value(2, 3, u);
                int b = x.value(5, 7, v);
                if (UNITS[u][v] < 0) {
                    Due.isRefused(x, "units " + u + ", " + v, () -> x.times(a, b), -1);
                } else {
                    Due.amount(x, x.times(a, b), 10, 21, UNITS[u][v]);
                }
            }
        }
    }

    private static void noSuchAmount() {
        Due.sentence("-3 there is no such amount");
        LitreFractions x = new LitreFractions();
        Due.isRefused(x, "none at all", () -> x.times(0, 0), -3);
        x.value(1, 2, NUMBER);
        x.value(1, 3, LITRES);
        for (int a : Sample.noAmounts(2)) {
            Due.isRefused(x, "times(" + a + ", 0)", () -> x.times(a, 0), -3);
            Due.isRefused(x, "times(0, " + a + ")", () -> x.times(0, a), -3);
            Due.isRefused(x, "times(" + a + ", " + a + ")", () -> x.times(a, a), -3);
        }
        Due.amount(x, x.times(0, 1), 1, 6, LITRES);
        Due.amount(x, x.times(2, 0), 1, 12, LITRES);
    }

    private static void aboveTooLarge() {
        Due.sentence("both (the above without its sign) at most 2147483647 .. -2");
        LitreFractions x = new LitreFractions();
        int large = x.value(LARGEST, 1, NUMBER);
        int one = x.value(1, 1, NUMBER);
        int minus = x.value(-1, 1, NUMBER);
        int wide = x.value(65536, 1, NUMBER);
        int less = x.value(32768, 1, NUMBER);
        int lessBelow0 = x.value(-32768, 1, NUMBER);
        Due.amount(x, x.times(large, one), LARGEST, 1, NUMBER);
        Due.amount(x, x.times(large, minus), -LARGEST, 1, NUMBER);
        Due.isRefused(x, "2147483648", () -> x.times(wide, less), -2);
        Due.isRefused(x, "-2147483648", () -> x.times(lessBelow0, wide), -2);
        Due.isRefused(x, "2^32", () -> x.times(wide, wide), -2);
        Due.isRefused(x, "the largest", () -> x.times(large, large), -2);
        int least = x.times(large, minus);
        Due.isRefused(x, "the least", () -> x.times(large, least), -2);
        Due.isRefused(x, "the least by itself", () -> x.times(least, least), -2);
        Due.amount(x, x.times(x.value(2, 1, NUMBER), x.value(1073741823, 1, NUMBER)), 2147483646, 1, NUMBER);
    }

    private static void belowTooLarge() {
        Due.sentence("both (the above without its sign) at most 2147483647 .. -2");
        LitreFractions x = new LitreFractions();
        int finest = x.value(1, LARGEST, NUMBER);
        int large = x.value(LARGEST, 1, NUMBER);
        int fine = x.value(1, 65536, NUMBER);
        int lessFine = x.value(-1, 32768, NUMBER);
        int half = x.value(1, 2, NUMBER);
        Due.amount(x, x.times(finest, x.value(-1, 1, NUMBER)), -1, LARGEST, NUMBER);
        Due.amount(x, x.times(half, x.value(1, 1073741823, NUMBER)), 1, 2147483646, NUMBER);
        Due.isRefused(x, "over 2147483648", () -> x.times(fine, lessFine), -2);
        Due.isRefused(x, "over 2 * 2147483647", () -> x.times(half, finest), -2);
        Due.isRefused(x, "over 2147483647^2", () -> x.times(finest, finest), -2);
        Due.amount(x, x.times(large, finest), 1, 1, NUMBER);
    }
}
