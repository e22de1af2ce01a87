/** Promises 10 and 11: weights, and the shares of an amount by them. */
public final class SharesTest {
    private static final long LARGEST = 2147483647L;

    public static void main(String[] args) {
        weights();
        evenShares();
        leftByRank();
        belowAThousandth();
        weightsOfZero();
        wrongShares();
        sharesTooLarge();
        Due.end();
    }

    private static LitreFractions weighted(long... weights) {
        LitreFractions x = new LitreFractions();
        for (long w : weights) {
            x.weight(w);
        }
        return x;
    }

    private static void weights() {
        LitreFractions x = new LitreFractions();
        long[] wrong = {-1, 1000001, 4294967296L, Long.MIN_VALUE, Long.MAX_VALUE};
        for (long w : wrong) {
            Due.is("weight " + w, x.weight(w), false);
        }
        Due.is("none of them counts", x.told(0, 4), 0);
        Due.is("the least", x.weight(0), true);
        Due.is("the most", x.weight(1000000), true);
        for (int i = 2; i < 16; i++) {
            Due.is("weight " + i, x.weight(i), true);
        }
        Due.is("the 17th", x.weight(1), false);
        Due.is("how many", x.told(0, 4), 16);
    }

    private static void evenShares() {
        LitreFractions x = weighted(1, 2, 1);
        int a = x.value(3, 2, 1);
        Due.amount(x, x.share(a, 0), 3, 8, 1);
        Due.amount(x, x.share(a, 1), 3, 4, 1);
        Due.amount(x, x.share(a, 2), 3, 8, 1);
        for (int unit = 0; unit < 5; unit++) {
            Due.amount(x, x.share(x.value(4, 1, unit), 1), 2, 1, unit);
        }
        int zero = x.value(0, 1, 2);
        Due.amount(x, x.share(zero, 0), 0, 1, 2);
        Due.amount(x, x.share(zero, 2), 0, 1, 2);
    }

    private static void thousandths(LitreFractions x, int a, long... due) {
        for (int k = 0; k < due.length; k++) {
            int made = x.share(a, k);
            Due.is("share " + k + " of " + a, x.told(made, 0) * 1000, due[k] * x.told(made, 1));
        }
    }

    private static void leftByRank() {
        LitreFractions equal = weighted(1, 1, 1, 0);
        thousandths(equal, equal.value(1, 1, 1), 334, 333, 333, 0);
        thousandths(equal, equal.value(2, 1, 1), 667, 667, 666, 0);
        // Of 10 thousandths 7, 1, 6 in 14 are owed 5, 10/14, 4 and 4/14.
        LitreFractions ranked = weighted(7, 1, 6);
        thousandths(ranked, ranked.value(10, 1000, 1), 5, 1, 4);
        // Of 7 thousandths 5, 3, 4, 3 in 15: rests 5, 6, 13, 6 in 15, so two are left.
        LitreFractions more = weighted(5, 3, 4, 3);
        thousandths(more, more.value(7, 1000, 1), 2, 2, 2, 1);
        LitreFractions last = weighted(1, 1, 2);
        thousandths(last, last.value(1, 1000, 1), 0, 0, 1);
        LitreFractions all = weighted(1, 1, 1, 1, 1, 1, 1, 1, 1, 1, 1, 1, 1, 1, 1, 1);
        thousandths(all, all.value(31, 1000, 1), 2, 2, 2, 2, 2, 2, 2, 2, 2, 2, 2, 2, 2, 2, 2, 1);
    }

    private static void belowAThousandth() {
        LitreFractions x = weighted(1, 1, 1);
        int a = x.value(7, 3, 2);
        // 2333 thousandths and 1/3000: the first has 778/1000 and 1/3000.
        Due.amount(x, x.share(a, 0), 467, 600, 2);
        Due.amount(x, x.share(a, 1), 389, 500, 2);
        Due.amount(x, x.share(a, 2), 777, 1000, 2);
        int tiny = x.value(1, 1001, 2);
        Due.amount(x, x.share(tiny, 0), 1, 1001, 2);
        Due.amount(x, x.share(tiny, 1), 0, 1, 2);
    }

    private static void weightsOfZero() {
        LitreFractions x = weighted(0, 3, 0, 1);
        int a = x.value(1, 3, 4);
        // 333 thousandths, rests 3 and 1 in 4; what is below a thousandth is the first share's, whatever its weight.
        Due.amount(x, x.share(a, 0), 1, 3000, 4);
        Due.amount(x, x.share(a, 1), 1, 4, 4);
        Due.amount(x, x.share(a, 2), 0, 1, 4);
        Due.amount(x, x.share(a, 3), 83, 1000, 4);
    }

    private static void wrongShares() {
        LitreFractions x = new LitreFractions();
        int a = x.value(1, 2, 0);
        int minus = x.value(-1, 2000, 0);
        Due.is("no weights", x.share(a, 0), -3);
        Due.is("no weights, below 0", x.share(minus, 0), -3);
        x.weight(0);
        Due.is("all are 0", x.share(a, 0), -1);
        Due.is("no such weight, all are 0", x.share(a, 1), -3);
        x.weight(2);
        Due.is("below 0", x.share(minus, 1), -1);
        Due.is("no such weight, below 0", x.share(minus, 2), -3);
        Due.is("a negative weight's number", x.share(a, -1), -3);
        Due.is("weight 16", x.share(a, 16), -3);
        Due.is("no weight at all", x.share(a, Integer.MAX_VALUE), -3);
        Due.is("no such amount", x.share(2, 0), -3);
        Due.is("a negative amount's number", x.share(-1, 0), -3);
        Due.is("nothing was made", x.told(0, 3), 2);
    }

    private static void sharesTooLarge() {
        LitreFractions x = weighted(1000000, 1000000, 999999);
        int large = x.value(LARGEST, 1, 0);
        Due.is("too fine", x.share(large, 0), -2);
        Due.is("too fine, the last", x.share(large, 2), -2);
        int fine = x.value(LARGEST, LARGEST - 1, 0);
        Due.is("below too large", x.share(fine, 0), -2);
        Due.amount(x, x.share(fine, 1), 333, 1000, 0);
        LitreFractions one = weighted(1000000);
        Due.amount(one, one.share(one.value(LARGEST, 1, 3), 0), LARGEST, 1, 3);
        Due.amount(one, one.share(one.value(LARGEST, LARGEST - 1, 3), 0), LARGEST, LARGEST - 1, 3);
    }
}
