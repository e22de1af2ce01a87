/** Promise 2: value. */
public final class Promise02ValueTest {
    private static final int NUMBER = Sample.NUMBER;
    private static final long LARGEST = Sample.LARGEST;
    private static final long FAR = 1000000000000000000L;

    public static void main(String[] args) {
        anAmount();
        belowIs0();
        unitIsNot0To4();
        aboveIsTooFar();
        belowIsTooFar();
        aboveAtMost2147483647();
        belowAtMost2147483647();
        largestInLowestTerms();
        Due.end();
    }

    private static void anAmount() {
        Due.sentence("An amount, above / below: its number");
        LitreFractions x = new LitreFractions();
        Due.is("the first", x.value(6, 4, 1), 0);
        Due.is("the second", x.value(-7, 3, 2), 1);
        Due.amount(x, 0, 3, 2, 1);
        Due.amount(x, 1, -7, 3, 2);
        Due.amount(x, x.value(5, -10, 3), -1, 2, 3);
        Due.amount(x, x.value(-5, -10, 4), 1, 2, 4);
        Due.amount(x, x.value(0, 5, NUMBER), 0, 1, NUMBER);
        Due.amount(x, x.value(6 * 12586269025L, 9 * 12586269025L, NUMBER), 2, 3, NUMBER);
    }

    private static void belowIs0() {
        Due.sentence("ArithmeticException: below is 0");
        LitreFractions x = new LitreFractions();
        Due.isRefused(x, "1 / 0", () -> x.value(1, 0, NUMBER), ArithmeticException.class);
        Due.isRefused(x, "0 / 0", () -> x.value(0, 0, NUMBER), ArithmeticException.class);
        Due.isRefused(x, "-1 / 0", () -> x.value(-1, 0, NUMBER), ArithmeticException.class);
        Due.isRefused(x, "least / 0", () -> x.value(Long.MIN_VALUE, 0, NUMBER), ArithmeticException.class);
        Due.amount(x, x.value(1, 1, NUMBER), 1, 1, NUMBER);
        Due.amount(x, x.value(1, -1, NUMBER), -1, 1, NUMBER);
        Due.amount(x, x.value(0, 1, NUMBER), 0, 1, NUMBER);
    }

    private static void unitIsNot0To4() {
        Due.sentence("-3 the unit is not 0 .. 4");
        LitreFractions x = new LitreFractions();
        Due.isRefused(x, "unit -1", () -> x.value(1, 2, -1), -3);
        Due.isRefused(x, "unit 5", () -> x.value(1, 2, 5), -3);
        Due.isRefused(x, "unit least", () -> x.value(1, 2, Integer.MIN_VALUE), -3);
        Due.isRefused(x, "unit most", () -> x.value(1, 2, Integer.MAX_VALUE), -3);
        Due.amount(x, x.value(1, 2, 0), 1, 2, 0);
        Due.amount(x, x.value(1, 2, 4), 1, 2, 4);
    }

    private static void aboveIsTooFar() {
        Due.sentence("-3 .. above .. is -10^18 or less, or 10^18 or more");
        LitreFractions x = new LitreFractions();
        long[] far = {-FAR, -FAR - 1, Long.MIN_VALUE, FAR, FAR + 1, Long.MAX_VALUE};
        for (long above : far) {
            Due.isRefused(x, above + " / 1", () -> x.value(above, 1, NUMBER), -3);
            // Over this below it would be small enough, were it not too far.
            Due.isRefused(x, above + " / 10^18 - 1", () -> x.value(above, FAR - 1, NUMBER), -3);
        }
        Due.amount(x, x.value(FAR - 1, FAR - 1, NUMBER), 1, 1, NUMBER);
        Due.amount(x, x.value(1 - FAR, FAR - 1, NUMBER), -1, 1, NUMBER);
        Due.isRefused(x, "10^18 - 1 is not too far, but too large", () -> x.value(FAR - 1, 1, NUMBER), -2);
        Due.isRefused(x, "1 - 10^18 is not too far, but too large", () -> x.value(1 - FAR, 1, NUMBER), -2);
    }

    private static void belowIsTooFar() {
        Due.sentence("-3 .. below is -10^18 or less, or 10^18 or more");
        LitreFractions x = new LitreFractions();
        long[] far = {-FAR, -FAR - 1, Long.MIN_VALUE, FAR, FAR + 1, Long.MAX_VALUE};
        for (long below : far) {
            Due.isRefused(x, "1 / " + below, () -> x.value(1, below, NUMBER), -3);
            Due.isRefused(x, "0 / " + below, () -> x.value(0, below, NUMBER), -3);
            Due.isRefused(x, "the same over " + below, () -> x.value(below, below, NUMBER), -3);
        }
        Due.amount(x, x.value(0, FAR - 1, NUMBER), 0, 1, NUMBER);
        Due.amount(x, x.value(0, 1 - FAR, NUMBER), 0, 1, NUMBER);
        Due.amount(x, x.value(1 - FAR, 1 - FAR, NUMBER), 1, 1, NUMBER);
        Due.isRefused(x, "10^18 - 1 is not too far, but too large", () -> x.value(1, FAR - 1, NUMBER), -2);
        Due.isRefused(x, "1 - 10^18 is not too far, but too large", () -> x.value(1, 1 - FAR, NUMBER), -2);
    }

    private static void aboveAtMost2147483647() {
        Due.sentence("both (the above without its sign) at most 2147483647 .. -2");
        LitreFractions x = new LitreFractions();
        Due.amount(x, x.value(LARGEST, 1, NUMBER), LARGEST, 1, NUMBER);
        Due.isRefused(x, "2147483648", () -> x.value(LARGEST + 1, 1, NUMBER), -2);
        Due.amount(x, x.value(-LARGEST, 1, NUMBER), -LARGEST, 1, NUMBER);
        Due.isRefused(x, "-2147483648", () -> x.value(-LARGEST - 1, 1, NUMBER), -2);
        Due.amount(x, x.value(LARGEST, -1, NUMBER), -LARGEST, 1, NUMBER);
        Due.isRefused(x, "2147483648 / -1", () -> x.value(LARGEST + 1, -1, NUMBER), -2);
        Due.isRefused(x, "-2147483648 / -1", () -> x.value(-LARGEST - 1, -1, NUMBER), -2);
        Due.isRefused(x, "2^32 + 1", () -> x.value(4294967297L, 1, NUMBER), -2);
    }

    private static void belowAtMost2147483647() {
        Due.sentence("both (the above without its sign) at most 2147483647 .. -2");
        LitreFractions x = new LitreFractions();
        Due.amount(x, x.value(1, LARGEST, NUMBER), 1, LARGEST, NUMBER);
        Due.isRefused(x, "1 / 2147483648", () -> x.value(1, LARGEST + 1, NUMBER), -2);
        Due.amount(x, x.value(1, -LARGEST, NUMBER), -1, LARGEST, NUMBER);
        Due.isRefused(x, "1 / -2147483648", () -> x.value(1, -LARGEST - 1, NUMBER), -2);
        Due.amount(x, x.value(LARGEST - 1, LARGEST, NUMBER), LARGEST - 1, LARGEST, NUMBER);
        Due.isRefused(x, "1 / 2^32 + 1", () -> x.value(1, 4294967297L, NUMBER), -2);
    }

    private static void largestInLowestTerms() {
        Due.sentence("An amount that would be larger .. is not made: -2");
        LitreFractions x = new LitreFractions();
        Due.amount(x, x.value(3 * LARGEST, 3, NUMBER), LARGEST, 1, NUMBER);
        Due.isRefused(x, "3 * 2147483648 / 3", () -> x.value(3 * (LARGEST + 1), 3, NUMBER), -2);
        Due.amount(x, x.value(-3, 3 * LARGEST, NUMBER), -1, LARGEST, NUMBER);
        Due.isRefused(x, "3 / 3 * 2147483648", () -> x.value(3, 3 * (LARGEST + 1), NUMBER), -2);
        // Two neighbours of the Fibonacci row need the most steps to their common divisor.
        Due.isRefused(x, "the most steps", () -> x.value(679891637638612258L, 420196140727489673L, NUMBER), -2);
    }
}
