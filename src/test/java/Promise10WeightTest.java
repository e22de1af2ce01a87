/** Promise 10: weight. */
public final class Promise10WeightTest {
    public static void main(String[] args) {
        behindThoseTold();
        notSuch();
        sixteenWeights();
        refusedWeightsLeaveNothing();
        Due.end();
    }

    private static void isRefused(LitreFractions x, long w) {
        Due.isRefused(x, "weight(" + w + ")", () -> x.weight(w) ? 1 : 0, 0);
    }

    private static void behindThoseTold() {
        Due.sentence("A weight, 0 .. 1,000,000, behind those told");
        LitreFractions x = new LitreFractions();
        Due.is("the first", x.weight(1), true);
        Due.is("the second", x.weight(3), true);
        Due.is("how many", x.told(0, 4), 2);
        int a = x.value(4, 1, 1);
        Due.amount(x, x.share(a, 0), 1, 1, 1);
        Due.amount(x, x.share(a, 1), 3, 1, 1);
    }

    private static void notSuch() {
        Due.sentence("False when it is not such");
        LitreFractions x = new LitreFractions();
        long[] wrong = {-1, 1000001, 4294967296L, 4294967297L, Long.MIN_VALUE, Long.MAX_VALUE};
        for (long w : wrong) {
            isRefused(x, w);
        }
        Due.is("the least", x.weight(0), true);
        Due.is("the most", x.weight(1000000), true);
        Due.is("how many", x.told(0, 4), 2);
    }

    private static void sixteenWeights() {
        Due.sentence("at most 16. False when .. there are 16");
        LitreFractions x = new LitreFractions();
        for (int i = 0; i < 16; i++) {
            Due.is("weight " + i, x.weight(i), true);
            Due.is("how many", x.told(0, 4), i + 1);
        }
        isRefused(x, 0);
        isRefused(x, 1000000);
        isRefused(x, -1);
        int a = x.value(120, 1, 1);
        for (int k = 0; k < 16; k++) {
            Due.amount(x, x.share(a, k), k, 1, 1);
        }
    }

    private static void refusedWeightsLeaveNothing() {
        Due.sentence("False when it is not such");
        LitreFractions x = new LitreFractions();
        x.weight(1);
        isRefused(x, 1000001);
        isRefused(x, -1);
        x.weight(1);
        Due.amount(x, x.share(x.value(6, 1, 1), 1), 3, 1, 1);
    }
}
