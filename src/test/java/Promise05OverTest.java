/** Promise 5: over. */
public final class Promise05OverTest {
    private static final int NUMBER = Sample.NUMBER;
    private static final int LITRES = Sample.LITRES;
    private static final int KILOGRAMS = Sample.KILOGRAMS;
    private static final int EXTRACT = Sample.EXTRACT;
    private static final int ALCOHOL = Sample.ALCOHOL;
    private static final long LARGEST = Sample.LARGEST;

    private static final int[][] UNITS = {
        {NUMBER, -1, -1, -1, -1},
        {LITRES, NUMBER, -1, -1, LITRES},
        {KILOGRAMS, -1, NUMBER, KILOGRAMS, -1},
        {EXTRACT, -1, -1, NUMBER, -1},
        {ALCOHOL, -1, -1, -1, NUMBER},
    };

    public static void main(String[] args) {
        theQuotient();
        units();
        noSuchAmount();
        by0();
        aboveTooLarge();
        belowTooLarge();
        Due.end();
    }

    private static void theQuotient() {
        Due.sentence("The quotient a / b");
        LitreFractions x = new LitreFractions();
        int a = x.value(4, 9, LITRES);
        int b = x.value(-8, 3, NUMBER);
        Due.amount(x, x.over(a, b), -1, 6, LITRES);
        Due.amount(x, x.over(b, b), 1, 1, NUMBER);
        Due.amount(x, x.over(x.value(0, 1, NUMBER), b), 0, 1, NUMBER);
        Due.amount(x, x.over(x.value(-4, 9, LITRES), b), 1, 6, LITRES);
    }

    private static void units() {
        Due.sentence("Of one unit both: a number; by a number: a's unit; kilograms by a share of extract kilograms,"
                + " litres by a share of alcohol litres .. -1 other units; then ArithmeticException");
        for (int u = 0; u < 5; u++) {
            for (int v = 0; v < 5; v++) {
                LitreFractions x = new LitreFractions();
                int a = x.value(2, 3, u);
                int b = x.value(5, 7, v);
                int zero = x.value(0, 1, v);
                String of = "units " + u + ", " + v;
                if (UNITS[u][v] < 0) {
                    Due.isRefused(x, of, () -> x.over(a, b), -1);
                    Due.isRefused(x, of + " by 0", () -> x.over(a, zero), -1);
                } else {
                    Due.amount(x, x.over(a, b), 14, 15, UNITS[u][v]);
                    Due.isRefused(x, of + " by 0", () -> x.over(a, zero), ArithmeticException.class);
                }
            }
        }
    }

    private static void noSuchAmount() {
        Due.sentence("-3 there is no such amount");
        LitreFractions x = new LitreFractions();
        Due.isRefused(x, "none at all", () -> x.over(0, 0), -3);
        x.value(0, 1, NUMBER);
        x.value(1, 3, NUMBER);
        for (int a : Sample.noAmounts(2)) {
            Due.isRefused(x, "over(" + a + ", 0), by 0", () -> x.over(a, 0), -3);
            Due.isRefused(x, "over(" + a + ", 1)", () -> x.over(a, 1), -3);
            Due.isRefused(x, "over(1, " + a + ")", () -> x.over(1, a), -3);
            Due.isRefused(x, "over(" + a + ", " + a + ")", () -> x.over(a, a), -3);
        }
        Due.amount(x, x.over(0, 1), 0, 1, NUMBER);
    }

    private static void by0() {
        Due.sentence("then ArithmeticException: b is 0");
        LitreFractions x = new LitreFractions();
        int zero = x.value(0, 5, NUMBER);
        int one = x.value(1, 1, NUMBER);
        int finest = x.value(1, LARGEST, NUMBER);
        int finestBelow0 = x.value(-1, LARGEST, NUMBER);
        Due.isRefused(x, "1 by 0", () -> x.over(one, zero), ArithmeticException.class);
        Due.isRefused(x, "0 by 0", () -> x.over(zero, zero), ArithmeticException.class);
        Due.amount(x, x.over(one, finest), LARGEST, 1, NUMBER);
        Due.amount(x, x.over(one, finestBelow0), -LARGEST, 1, NUMBER);
        Due.amount(x, x.over(zero, one), 0, 1, NUMBER);
    }

    private static void aboveTooLarge() {
        Due.sentence("both (the above without its sign) at most 2147483647 .. -2");
        LitreFractions x = new LitreFractions();
        int wide = x.value(65536, 1, NUMBER);
        int fine = x.value(1, 32768, NUMBER);
        int fineBelow0 = x.value(-1, 32768, NUMBER);
        int large = x.value(LARGEST, 1, NUMBER);
        int minus = x.value(-1, 1, NUMBER);
        int finest = x.value(1, LARGEST, NUMBER);
        Due.amount(x, x.over(large, minus), -LARGEST, 1, NUMBER);
        Due.amount(x, x.over(x.value(2, 1, NUMBER), x.value(1, 1073741823, NUMBER)), 2147483646, 1, NUMBER);
        Due.isRefused(x, "2147483648", () -> x.over(wide, fine), -2);
        Due.isRefused(x, "-2147483648", () -> x.over(wide, fineBelow0), -2);
        Due.isRefused(x, "the largest by the finest", () -> x.over(large, finest), -2);
        Due.amount(x, x.over(large, large), 1, 1, NUMBER);
    }

    private static void belowTooLarge() {
        Due.sentence("both (the above without its sign) at most 2147483647 .. -2");
        LitreFractions x = new LitreFractions();
        int fine = x.value(1, 65536, NUMBER);
        int wide = x.value(32768, 1, NUMBER);
        int wideBelow0 = x.value(-32768, 1, NUMBER);
        int large = x.value(LARGEST, 1, NUMBER);
        int finest = x.value(-1, LARGEST, NUMBER);
        int one = x.value(1, 1, NUMBER);
        Due.amount(x, x.over(one, large), 1, LARGEST, NUMBER);
        Due.amount(x, x.over(one, x.value(-LARGEST, 1, NUMBER)), -1, LARGEST, NUMBER);
        Due.isRefused(x, "over 2147483648", () -> x.over(fine, wide), -2);
        Due.isRefused(x, "over 2147483648, below 0", () -> x.over(fine, wideBelow0), -2);
        Due.isRefused(x, "the finest by the largest", () -> x.over(finest, large), -2);
        Due.amount(x, x.over(finest, finest), 1, 1, NUMBER);
    }
}
