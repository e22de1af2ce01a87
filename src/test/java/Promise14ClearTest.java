/** Promise 14: clear. */
public final class Promise14ClearTest {
    private static final String NOTHING = "0 amounts, 0 weights, rows 0 0 0 0";

    public static void main(String[] args) {
        ofANewObject();
        noAmounts();
        ofAFullObject();
        noRows();
        ofFullTables();
        noWeights();
        ofSixteenWeights();
        Due.end();
    }

    private static void ofANewObject() {
        Due.sentence("No amounts, rows, weights");
        LitreFractions x = new LitreFractions();
        x.clear();
        x.clear();
        Due.same("nothing", Due.countsOf(x), NOTHING);
        Due.is("the first", x.value(1, 2, 1), 0);
    }

    private static void noAmounts() {
        Due.sentence("No amounts");
        LitreFractions x = Sample.filled(20, 1);
        x.clear();
        Due.same("nothing", Due.countsOf(x), NOTHING);
        for (int what = 0; what < 3; what++) {
            Due.is("told(0, " + what + ")", x.told(0, what), -9);
        }
        Due.is("add", x.add(0, 0), -3);
        Due.is("times", x.times(0, 4), -3);
        Due.is("over", x.over(0, 0), -3);
        Due.is("round", x.round(0, 0, 1), -3);
        Due.is("order", x.order(0, 0), -3);
        Due.is("digit", x.digit(0, 0, 0), -3);
        Due.is("join", x.join(0, 0), -3);
        Due.is("share", x.share(0, 0), -3);
        Due.is("numbered from 0 again", x.value(3, 4, 2), 0);
        Due.amount(x, 0, 3, 4, 2);
        Due.is("and no second", x.told(1, 0), -9);
    }

    private static void ofAFullObject() {
        Due.sentence("No amounts");
        LitreFractions x = Sample.filled(500, 1);
        Due.is("the 501st", x.value(1, 1, 0), -2);
        x.clear();
        Due.is("the first again", x.value(1, 1, 0), 0);
        Due.is("how many", x.told(0, 3), 1);
        Due.is("the last of before", x.told(499, 0), -9);
    }

    private static void noRows() {
        Due.sentence("No .. rows");
        LitreFractions x = new LitreFractions();
        for (int table = 0; table < 4; table++) {
            x.row(table, 10000, table, 10);
        }
        x.clear();
        Due.same("nothing", Due.countsOf(x), NOTHING);
        int a = x.value(1, 2, 0);
        for (int table = 0; table < 4; table++) {
            Due.is("join of " + table, x.join(table, a), -1);
            Due.is("another below and a lesser x", x.row(table, -5, 3, 7), true);
            Due.is("rows of " + table, x.told(table, 5), 1);
            Due.amount(x, x.join(table, a), 3, 7, 0);
        }
    }

    private static void ofFullTables() {
        Due.sentence("No .. rows");
        LitreFractions x = new LitreFractions();
        for (int i = 0; i < 64; i++) {
            x.row(i % 4, i, 0, 10);
        }
        Due.is("the 17th of 3", x.row(3, 64, 0, 10), false);
        x.clear();
        for (int i = 0; i < 64; i++) {
            Due.is("row " + i / 4 + " of " + i % 4, x.row(i % 4, i - 100, 0, 3), true);
        }
        Due.is("the 17th of 3 again", x.row(3, 64, 0, 3), false);
    }

    private static void noWeights() {
        Due.sentence("No .. weights");
        LitreFractions x = Sample.weighted(5, 6, 7);
        x.clear();
        Due.same("nothing", Due.countsOf(x), NOTHING);
        int a = x.value(4, 1, 0);
        Due.is("share 0", x.share(a, 0), -3);
        Due.is("a weight of 0", x.weight(0), true);
        Due.is("all weights are 0", x.share(a, 0), -1);
        Due.is("the second of before", x.share(a, 1), -3);
        Due.is("another", x.weight(2), true);
        Due.amount(x, x.share(a, 1), 4, 1, 0);
    }

    private static void ofSixteenWeights() {
        Due.sentence("No .. weights");
        LitreFractions x = new LitreFractions();
        for (int i = 0; i < 16; i++) {
            x.weight(1);
        }
        Due.is("the 17th", x.weight(1), false);
        x.clear();
        for (int i = 0; i < 16; i++) {
            Due.is("weight " + i, x.weight(1), true);
        }
        Due.is("the 17th again", x.weight(1), false);
    }
}
