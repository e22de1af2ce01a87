/** Promise 1: a new object has no amounts, rows, weights. */
public final class Promise01NewObjectTest {
    public static void main(String[] args) {
        noAmounts();
        noRows();
        noWeights();
        ofItsOwn();
        answersUntilThe512thCall();
        Due.end();
    }

    private static void noAmounts() {
        Due.sentence("No amounts");
        LitreFractions x = new LitreFractions();
        Due.is("how many", x.told(0, 3), 0);
        Due.is("above of 0", x.told(0, 0), -9);
        Due.is("below of 0", x.told(0, 1), -9);
        Due.is("unit of 0", x.told(0, 2), -9);
        Due.is("add", x.add(0, 0), -3);
        Due.is("times", x.times(0, 0), -3);
        Due.is("over", x.over(0, 0), -3);
        Due.is("round", x.round(0, 0, 1), -3);
        Due.is("order", x.order(0, 0), -3);
        Due.is("digit", x.digit(0, 0, 0), -3);
        Due.is("the first", x.value(1, 2, 0), 0);
    }

    private static void noRows() {
        Due.sentence("No .. rows");
        LitreFractions x = new LitreFractions();
        x.value(1, 2, 0);
        for (int table = 0; table < 4; table++) {
            Due.is("rows of " + table, x.told(table, 5), 0);
            Due.is("join of " + table, x.join(table, 0), -1);
        }
        for (int table = 0; table < 4; table++) {
            Due.is("the first row of " + table, x.row(table, -10000, 3, 97 + table), true);
        }
    }

    private static void noWeights() {
        Due.sentence("No .. weights");
        LitreFractions x = new LitreFractions();
        x.value(1, 2, 0);
        Due.is("how many", x.told(0, 4), 0);
        Due.is("share 0", x.share(0, 0), -3);
        for (int i = 0; i < 16; i++) {
            Due.is("weight " + i, x.weight(1), true);
        }
    }

    private static void ofItsOwn() {
        Due.sentence("No amounts, rows, weights");
        LitreFractions used = Sample.filled(20, 3);
        LitreFractions x = new LitreFractions();
        Due.same("new", Due.countsOf(x), "0 amounts, 0 weights, rows 0 0 0 0");
        x.value(7, 8, 2);
        x.weight(5);
        Due.same("used", Due.countsOf(used), "20 amounts, 1 weights, rows 1 0 0 0");
        Due.amount(used, 0, 1, 2, 1);
    }

    private static void answersUntilThe512thCall() {
        Due.sentence("An object is used for at most 512 calls");
        LitreFractions x = new LitreFractions();
        for (int call = 1; call < 511; call++) {
            Due.is("call " + call, x.told(0, 3), 0);
        }
        Due.is("call 511", x.value(1, 2, 1), 0);
        Due.is("call 512", x.add(0, 0), 1);
    }
}
