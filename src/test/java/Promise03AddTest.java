/** Promise 3: add. */
public final class Promise03AddTest {
    private static final int NUMBER = Sample.NUMBER;
    private static final int LITRES = Sample.LITRES;
    private static final long LARGEST = Sample.LARGEST;

    public static void main(String[] args) {
        theSum();
        noSuchAmount();
        unitsDiffer();
        aboveTooLarge();
        belowTooLarge();
        nearTheLongsEnd();
        Due.end();
    }

    private static void theSum() {
        Due.sentence("The sum of two amounts: its number");
        LitreFractions x = new LitreFractions();
        int sixth = x.value(1, 6, LITRES);
        int tenth = x.value(-1, 10, LITRES);
        Due.is("its number", x.add(sixth, tenth), 2);
        Due.amount(x, 2, 1, 15, LITRES);
        Due.amount(x, x.add(tenth, sixth), 1, 15, LITRES);
        Due.amount(x, x.add(sixth, sixth), 1, 3, LITRES);
        Due.amount(x, x.add(tenth, tenth), -1, 5, LITRES);
        Due.amount(x, x.add(sixth, x.value(-1, 6, LITRES)), 0, 1, LITRES);
        Due.amount(x, sixth, 1, 6, LITRES);
    }

    private static void noSuchAmount() {
        Due.sentence("-3 there is no such amount");
        LitreFractions x = new LitreFractions();
        Due.isRefused(x, "none at all", () -> x.add(0, 0), -3);
        x.value(1, 2, LITRES);
        x.value(1, 3, LITRES);
        for (int a : Sample.noAmounts(2)) {
            Due.isRefused(x, "add(" + a + ", 0)", () -> x.add(a, 0), -3);
            Due.isRefused(x, "add(0, " + a + ")", () -> x.add(0, a), -3);
            Due.isRefused(x, "add(" + a + ", " + a + ")", () -> x.add(a, a), -3);
        }
        Due.amount(x, x.add(0, 1), 5, 6, LITRES);
        Due.amount(x, x.add(2, 0), 4, 3, LITRES);
    }

    private static void unitsDiffer() {
        Due.sentence("-1 their units differ");
        for (int u = 0; u < 5; u++) {
            for (int v = 0; v < 5; v++) {
                LitreFractions x = new LitreFractions();
                int a = x.value(2, 3, u);
                int b = x.value(5, 7, v);
                if (u == v) {
                    Due.amount(x, x.add(a, b), 29, 21, u);
                } else {
                    Due.isRefused(x, "units " + u + ", " + v, () -> x.add(a, b), -1);
                }
            }
        }
    }

    private static void aboveTooLarge() {
        Due.sentence("both (the above without its sign) at most 2147483647 .. -2");
        LitreFractions x = new LitreFractions();
        int large = x.value(LARGEST, 1, NUMBER);
        int nearly = x.value(LARGEST - 1, 1, NUMBER);
        int one = x.value(1, 1, NUMBER);
        int least = x.value(-LARGEST, 1, NUMBER);
        int nearlyLeast = x.value(1 - LARGEST, 1, NUMBER);
        int minus = x.value(-1, 1, NUMBER);
        Due.amount(x, x.add(nearly, one), LARGEST, 1, NUMBER);
        Due.isRefused(x, "2147483648", () -> x.add(large, one), -2);
        Due.isRefused(x, "twice the largest", () -> x.add(large, large), -2);
        Due.amount(x, x.add(nearlyLeast, minus), -LARGEST, 1, NUMBER);
        Due.isRefused(x, "-2147483648", () -> x.add(minus, least), -2);
        Due.isRefused(x, "twice the least", () -> x.add(least, least), -2);
        Due.amount(x, x.add(large, least), 0, 1, NUMBER);
    }

    private static void belowTooLarge() {
        Due.sentence("both (the above without its sign) at most 2147483647 .. -2");
        LitreFractions x = new LitreFractions();
        int finest = x.value(1, LARGEST, NUMBER);
        Due.amount(x, x.add(finest, finest), 2, LARGEST, NUMBER);
        int half = x.value(1, 2, NUMBER);
        int halfFine = x.value(-1, 1073741823, NUMBER);
        Due.amount(x, x.add(half, halfFine), 1073741821, 2147483646, NUMBER);
        int third = x.value(1, 3, NUMBER);
        int thirdFine = x.value(-1, 715827883, NUMBER);
        Due.isRefused(x, "over 2147483649", () -> x.add(third, thirdFine), -2);
        Due.isRefused(x, "over 2 * 2147483647", () -> x.add(finest, half), -2);
    }

    private static void nearTheLongsEnd() {
        Due.sentence("An amount that would be larger .. is not made: -2");
        LitreFractions x = new LitreFractions();
        int large = x.value(LARGEST, LARGEST - 1, NUMBER);
        int other = x.value(LARGEST - 1, LARGEST, NUMBER);
        int whole = x.value(LARGEST, 1, NUMBER);
        int fine = x.value(-LARGEST, LARGEST - 1, NUMBER);
        Due.isRefused(x, "both parts near 2^62", () -> x.add(large, other), -2);
        Due.isRefused(x, "a whole and a fine one", () -> x.add(whole, large), -2);
        Due.amount(x, x.add(large, fine), 0, 1, NUMBER);
        Due.amount(x, x.add(large, large), LARGEST, 1073741823, NUMBER);
        Due.amount(x, x.add(other, x.value(1, LARGEST, NUMBER)), 1, 1, NUMBER);
    }
}
