import java.util.Arrays;

/** Promise 11: share. */
public final class Promise11ShareTest {
    private static final long LARGEST = Sample.LARGEST;

    public static void main(String[] args) {
        roundedDown();
        greatestRests();
        equalRests();
        asManyLeftAsCanBe();
        belowAThousandth();
        noWholeThousandth();
        weightsOf0();
        noSuchAmount();
        noSuchWeight();
        amountBelow0();
        allWeightsAre0();
        aboveTooLarge();
        belowTooLarge();
        largest();
        withItsUnit();
        Due.end();
    }

    /** What each share is, in thousandths. */
    private static void thousandths(LitreFractions x, int a, long... due) {
        for (int k = 0; k < due.length; k++) {
            int made = x.share(a, k);
            Due.is("share " + k + " of " + x.told(a, 0) + "/" + x.told(a, 1), x.told(made, 0) * 1000, due[k] * x.told(made, 1));
        }
    }

    private static void roundedDown() {
        Due.sentence("each weight w gets t * w / all of them, rounded down");
        LitreFractions x = Sample.weighted(1, 2, 1);
        thousandths(x, x.value(3, 2, 1), 375, 750, 375);
        thousandths(x, x.value(4, 1, 1), 1000, 2000, 1000);
        thousandths(x, x.value(4, 1000, 1), 1, 2, 1);
        thousandths(x, x.value(0, 1, 1), 0, 0, 0);
        LitreFractions one = Sample.weighted(7);
        Due.amount(one, one.share(one.value(22, 7, 1), 0), 22, 7, 1);
    }

    private static void greatestRests() {
        Due.sentence("those that are left go one each to the weights whose rests (what was rounded away) are greatest");
        // Of 10 thousandths 7, 1, 6 in 14 are owed 5, 10/14, 4 and 4/14.
        LitreFractions x = Sample.weighted(7, 1, 6);
        thousandths(x, x.value(10, 1000, 1), 5, 1, 4);
        // Of 7 thousandths 5, 3, 4, 3 in 15 are owed 2 5/15, 1 6/15, 1 13/15, 1 6/15.
        LitreFractions more = Sample.weighted(5, 3, 4, 3);
        thousandths(more, more.value(7, 1000, 1), 2, 2, 2, 1);
        LitreFractions last = Sample.weighted(1, 1, 2);
        thousandths(last, last.value(1, 1000, 1), 0, 0, 1);
        // The rests are 999999 and 1000000 in 1999999.
        LitreFractions near = Sample.weighted(999999, 1000000);
        thousandths(near, near.value(1, 1000, 1), 0, 1);
        LitreFractions turned = Sample.weighted(1000000, 999999);
        thousandths(turned, turned.value(1, 1000, 1), 1, 0);
    }

    private static void equalRests() {
        Due.sentence("of equal rests the first told");
        LitreFractions x = Sample.weighted(1, 1, 1);
        thousandths(x, x.value(1, 1000, 1), 1, 0, 0);
        thousandths(x, x.value(2, 1000, 1), 1, 1, 0);
        thousandths(x, x.value(3, 1000, 1), 1, 1, 1);
        thousandths(x, x.value(4, 1000, 1), 2, 1, 1);
        // Rests 1, 2, 2, 1 in 6 with one left, which is the second's; then 2, 4, 4, 2 with two left.
        LitreFractions middle = Sample.weighted(1, 2, 2, 1);
        thousandths(middle, middle.value(1, 1000, 1), 0, 1, 0, 0);
        thousandths(middle, middle.value(2, 1000, 1), 0, 1, 1, 0);
        // Unlike weights can have equal rests: of 2 thousandths 3 and 1 in 4 are owed 1 2/4 and 2/4.
        LitreFractions unlike = Sample.weighted(3, 1);
        thousandths(unlike, unlike.value(2, 1000, 1), 2, 0);
        LitreFractions unlikeTurned = Sample.weighted(1, 3);
        thousandths(unlikeTurned, unlikeTurned.value(2, 1000, 1), 1, 1);
    }

    private static void asManyLeftAsCanBe() {
        Due.sentence("those that are left go one each");
        LitreFractions x = Sample.weighted(1, 1, 1, 1, 1, 1, 1, 1, 1, 1, 1, 1, 1, 1, 1, 1);
        thousandths(x, x.value(31, 1000, 1), 2, 2, 2, 2, 2, 2, 2, 2, 2, 2, 2, 2, 2, 2, 2, 1);
        thousandths(x, x.value(32, 1000, 1), 2, 2, 2, 2, 2, 2, 2, 2, 2, 2, 2, 2, 2, 2, 2, 2);
        thousandths(x, x.value(33, 1000, 1), 3, 2, 2, 2, 2, 2, 2, 2, 2, 2, 2, 2, 2, 2, 2, 2);
    }

    private static void belowAThousandth() {
        Due.sentence("What there is below a thousandth is the first share's");
        LitreFractions x = Sample.weighted(1, 1, 1);
        int a = x.value(7, 3, 2);
        // 2333 thousandths and 1/3000: the first has 778/1000 and 1/3000.
        Due.amount(x, x.share(a, 0), 467, 600, 2);
        Due.amount(x, x.share(a, 1), 389, 500, 2);
        Due.amount(x, x.share(a, 2), 777, 1000, 2);
        int whole = x.value(2333, 1000, 2);
        Due.amount(x, x.share(whole, 0), 389, 500, 2);
        int nearly = x.value(5999, 2000, 2);
        // 2999 thousandths and 1/2000: 1000, 1000, 999.
        Due.amount(x, x.share(nearly, 0), 2001, 2000, 2);
        Due.amount(x, x.share(nearly, 1), 1, 1, 2);
        Due.amount(x, x.share(nearly, 2), 999, 1000, 2);
    }

    private static void noWholeThousandth() {
        Due.sentence("Of the whole thousandths in it, t");
        LitreFractions x = Sample.weighted(1, 1000000);
        int tiny = x.value(1, 1001, 2);
        Due.amount(x, x.share(tiny, 0), 1, 1001, 2);
        Due.amount(x, x.share(tiny, 1), 0, 1, 2);
        int one = x.value(1, 1000, 2);
        Due.amount(x, x.share(one, 0), 0, 1, 2);
        Due.amount(x, x.share(one, 1), 1, 1000, 2);
        int more = x.value(1, 999, 2);
        Due.amount(x, x.share(more, 0), 1, 999000, 2);
        Due.amount(x, x.share(more, 1), 1, 1000, 2);
        int finest = x.value(1, LARGEST, 2);
        Due.amount(x, x.share(finest, 0), 1, LARGEST, 2);
        Due.amount(x, x.share(finest, 1), 0, 1, 2);
    }

    private static void weightsOf0() {
        Due.sentence("What there is below a thousandth is the first share's");
        LitreFractions x = Sample.weighted(0, 3, 0, 1);
        int a = x.value(1, 3, 4);
        // 333 thousandths leave 3 and 1 in 4; the first share is the first told, whatever its weight.
        Due.amount(x, x.share(a, 0), 1, 3000, 4);
        Due.amount(x, x.share(a, 1), 1, 4, 4);
        Due.amount(x, x.share(a, 2), 0, 1, 4);
        Due.amount(x, x.share(a, 3), 83, 1000, 4);
    }

    private static void noSuchAmount() {
        Due.sentence("-3 there is no such amount");
        LitreFractions x = Sample.weighted(1, 1);
        Due.isRefused(x, "none at all", () -> x.share(0, 0), -3);
        x.value(1, 1, 1);
        x.value(2, 1, 1);
        for (int a : Sample.noAmounts(2)) {
            Due.isRefused(x, "share(" + a + ", 0)", () -> x.share(a, 0), -3);
            Due.isRefused(x, "share(" + a + ", 1)", () -> x.share(a, 1), -3);
            Due.isRefused(x, "share(" + a + ", 2)", () -> x.share(a, 2), -3);
        }
        Due.amount(x, x.share(0, 0), 1, 2, 1);
        Due.amount(x, x.share(1, 0), 1, 1, 1);
    }

    private static void noSuchWeight() {
        Due.sentence("-3 there is no such .. weight");
        LitreFractions x = new LitreFractions();
        int a = x.value(16, 1, 1);
        for (int many = 0; many <= 16; many++) {
            int next = many;
            Due.isRefused(x, "share " + next + " of so many weights", () -> x.share(a, next), -3);
            if (many > 0) {
                Due.is("the last of " + many, x.share(a, many - 1) >= 0, true);
            }
            x.weight(1);
        }
        int[] none = {-1, 17, Integer.MIN_VALUE, Integer.MAX_VALUE};
        for (int k : none) {
            Due.isRefused(x, "share " + k, () -> x.share(a, k), -3);
        }
        Due.amount(x, x.share(a, 15), 1, 1, 1);
    }

    private static void amountBelow0() {
        Due.sentence("-1 the amount is below 0");
        LitreFractions x = Sample.weighted(1, 1);
        int minus = x.value(-1, 1, 1);
        int nearly0 = x.value(-1, LARGEST, 1);
        int least = x.value(-LARGEST, 1, 1);
        int zero = x.value(0, 1, 1);
        for (int k = 0; k < 2; k++) {
            int of = k;
            Due.isRefused(x, "of -1", () -> x.share(minus, of), -1);
            Due.isRefused(x, "of the last below 0", () -> x.share(nearly0, of), -1);
            Due.isRefused(x, "of the least", () -> x.share(least, of), -1);
            Due.amount(x, x.share(zero, k), 0, 1, 1);
        }
        Due.amount(x, x.share(x.value(1, LARGEST, 1), 0), 1, LARGEST, 1);
    }

    private static void allWeightsAre0() {
        Due.sentence("-1 .. all weights are 0");
        LitreFractions x = new LitreFractions();
        int a = x.value(1, 1, 1);
        int zero = x.value(0, 1, 1);
        for (int many = 1; many < 16; many++) {
            int last = many - 1;
            x.weight(0);
            Due.isRefused(x, "share " + last, () -> x.share(a, last), -1);
        }
        Due.isRefused(x, "share 0", () -> x.share(a, 0), -1);
        Due.isRefused(x, "share 0 of 0", () -> x.share(zero, 0), -1);
        x.weight(1);
        Due.amount(x, x.share(a, 0), 0, 1, 1);
        Due.amount(x, x.share(a, 15), 1, 1, 1);
    }

    private static void aboveTooLarge() {
        Due.sentence("both (the above without its sign) at most 2147483647 .. -2");
        LitreFractions x = Sample.weighted(1, 2);
        LitreFractions turned = Sample.weighted(2, 1);
        // 6442450940 thousandths by 3 are 2147483646 and 2/3; 6442450948 are 2147483649 and 1/3.
        int good = x.value(322122547, 50, 1);
        int more = x.value(1610612737, 250, 1);
        turned.value(322122547, 50, 1);
        turned.value(1610612737, 250, 1);
        Due.amount(x, x.share(good, 0), LARGEST, 1000, 1);
        Due.isRefused(x, "2147483649 / 1000", () -> x.share(more, 0), -2);
        Due.amount(turned, turned.share(good, 1), LARGEST, 1000, 1);
        Due.isRefused(turned, "2147483649 / 1000", () -> turned.share(more, 1), -2);
    }

    private static void belowTooLarge() {
        Due.sentence("both (the above without its sign) at most 2147483647 .. -2");
        LitreFractions x = Sample.weighted(0, 1);
        // One thousandth is the second's; over 1000 * below stays what is left.
        int good = x.value(2148, 2147483, 1);
        int more = x.value(2149, 2147487, 1);
        Due.amount(x, x.share(good, 0), 517, 2147483000, 1);
        Due.isRefused(x, "over 2147487000", () -> x.share(more, 0), -2);
        Due.amount(x, x.share(more, 1), 1, 1000, 1);
    }

    private static void largest() {
        Due.sentence("each weight w gets t * w / all of them");
        LitreFractions one = Sample.weighted(1000000);
        Due.amount(one, one.share(one.value(LARGEST, 1, 3), 0), LARGEST, 1, 3);
        Due.amount(one, one.share(one.value(LARGEST, LARGEST - 1, 3), 0), LARGEST, LARGEST - 1, 3);
        LitreFractions two = Sample.weighted(1000000, 1000000);
        int large = two.value(LARGEST, 1, 3);
        Due.amount(two, two.share(large, 0), LARGEST, 2, 3);
        Due.amount(two, two.share(large, 1), LARGEST, 2, 3);
        // 2147483647000 in a million parts: the second is owed 2147483.647 thousandths.
        LitreFractions unlike = Sample.weighted(999999, 1);
        int parted = unlike.value(LARGEST, 1, 3);
        Due.amount(unlike, unlike.share(parted, 1), 536871, 250, 3);
        Due.isRefused(unlike, "2147481499516 / 1000", () -> unlike.share(parted, 0), -2);
        long[] weights = new long[16];
        Arrays.fill(weights, 1000000);
        LitreFractions all = Sample.weighted(weights);
        thousandths(all, all.value(16001, 1000, 3), 1001, 1000, 1000, 1000, 1000, 1000, 1000, 1000,
                1000, 1000, 1000, 1000, 1000, 1000, 1000, 1000);
    }

    private static void withItsUnit() {
        Due.sentence("(With a's unit.)");
        LitreFractions x = Sample.weighted(1, 1);
        for (int unit = 0; unit < 5; unit++) {
            int a = x.value(4, 1, unit);
            Due.amount(x, x.share(a, 0), 2, 1, unit);
            Due.amount(x, x.share(a, 1), 2, 1, unit);
        }
    }
}
