/** Promises 8 and 9: the rows of tables, and the number that a table has at an amount. */
public final class TablesTest {
    private static final long LARGEST = 2147483647L;

    public static void main(String[] args) {
        goodRows();
        wrongRows();
        sixteenRows();
        tablesAreApart();
        joined();
        ofOneRow();
        wrongJoins();
        widest();
        Due.end();
    }

    private static void goodRows() {
        LitreFractions x = new LitreFractions();
        for (int table = 0; table < 4; table++) {
            Due.is("least", x.row(table, -10000, 10000, 100), true);
            Due.is("next", x.row(table, -9999, -10000, 100), true);
            Due.is("most", x.row(table, 10000, 0, 100), true);
            Due.is("rows", x.told(table, 5), 3);
        }
        x.clear();
        Due.is("below 1", x.row(0, 0, 0, 1), true);
    }

    private static void wrongRows() {
        LitreFractions x = new LitreFractions();
        int[] tables = {-1, 4, Integer.MIN_VALUE, Integer.MAX_VALUE};
        for (int table : tables) {
            Due.is("table " + table, x.row(table, 0, 0, 1), false);
        }
        long[] belows = {0, -1, 101, 4294967297L, Long.MIN_VALUE, Long.MAX_VALUE};
        for (long below : belows) {
            Due.is("below " + below, x.row(0, 0, 0, below), false);
        }
        long[] aboves = {-10001, 10001, 4294967296L, Long.MIN_VALUE, Long.MAX_VALUE};
        for (long above : aboves) {
            Due.is("x " + above, x.row(0, above, 0, 1), false);
            Due.is("y " + above, x.row(0, 0, above, 1), false);
        }
        Due.is("no row yet", x.told(0, 5), 0);
        Due.is("the first", x.row(0, 5, 5, 10), true);
        Due.is("another below", x.row(0, 6, 5, 9), false);
        Due.is("another below, the same x", x.row(0, 10, 5, 20), false);
        Due.is("the same x", x.row(0, 5, 6, 10), false);
        Due.is("a lesser x", x.row(0, 4, 6, 10), false);
        Due.is("one row", x.told(0, 5), 1);
        Due.is("the second", x.row(0, 6, 5, 10), true);
        Due.is("not more than the second", x.row(0, 6, 5, 10), false);
    }

    private static void sixteenRows() {
        LitreFractions x = new LitreFractions();
        for (int i = 0; i < 16; i++) {
            Due.is("row " + i, x.row(2, i, i * i, 2), true);
        }
        Due.is("the 17th", x.row(2, 16, 0, 2), false);
        Due.is("rows", x.told(2, 5), 16);
        Due.amount(x, x.join(2, x.value(100, 1, 0)), 225, 2, 0);
        Due.amount(x, x.join(2, x.value(29, 4, 0)), 421, 4, 0);
        Due.is("another table has room", x.row(3, 16, 0, 2), true);
    }

    private static void tablesAreApart() {
        LitreFractions x = new LitreFractions();
        int zero = x.value(0, 1, 0);
        for (int table = 0; table < 4; table++) {
            Due.is("row of " + table, x.row(table, 10 - table, table + 1, 2 * table + 3), true);
        }
        for (int table = 0; table < 4; table++) {
            Due.amount(x, x.join(table, zero), table + 1, 2 * table + 3, 0);
        }
    }

    private static void joined() {
        LitreFractions x = new LitreFractions();
        x.row(1, -10, 5, 10);
        x.row(1, 0, 25, 10);
        x.row(1, 30, -5, 10);
        long[][] lines = {
            {-5, 1, 1, 2}, {-1, 1, 1, 2}, {-1, 2, 3, 2}, {-1, 3, 11, 6}, {0, 1, 5, 2},
            {1, 1, 3, 2}, {5, 2, 0, 1}, {14, 5, -3, 10}, {3, 1, -1, 2}, {99, 1, -1, 2},
            {LARGEST, 1, -1, 2}, {-LARGEST, 1, 1, 2},
        };
        for (long[] line : lines) {
            for (int unit = 0; unit < 5; unit++) {
                int a = x.value(line[0], line[1], unit);
                Due.amount(x, x.join(1, a), line[2], line[3], 0);
            }
        }
    }

    private static void ofOneRow() {
        LitreFractions x = new LitreFractions();
        x.row(0, 4, 6, 4);
        Due.amount(x, x.join(0, x.value(0, 1, 1)), 3, 2, 0);
        Due.amount(x, x.join(0, x.value(1, 1, 1)), 3, 2, 0);
        Due.amount(x, x.join(0, x.value(2, 1, 1)), 3, 2, 0);
    }

    private static void wrongJoins() {
        LitreFractions x = new LitreFractions();
        Due.is("no amount, no rows", x.join(0, 0), -3);
        x.value(1, 1, 0);
        Due.is("no rows", x.join(0, 0), -1);
        Due.is("no table", x.join(4, 0), -3);
        Due.is("a negative table", x.join(-1, 0), -3);
        Due.is("no table at all", x.join(Integer.MAX_VALUE, 0), -3);
        x.row(0, 0, 0, 1);
        Due.is("no rows in another", x.join(1, 0), -1);
        Due.is("no amount", x.join(0, 1), -3);
        Due.is("a negative amount's number", x.join(0, -1), -3);
        Due.is("nothing was made", x.told(0, 3), 1);
    }

    private static void widest() {
        LitreFractions x = new LitreFractions();
        x.row(0, -10000, -10000, 1);
        x.row(0, 10000, 10000, 1);
        x.row(1, -10000, 10000, 100);
        x.row(1, 10000, -10000, 100);
        x.row(2, 0, 0, 1);
        x.row(2, 2, 1, 1);
        int fine = x.value(LARGEST, LARGEST - 1, 0);
        int finest = x.value(1, LARGEST, 0);
        Due.amount(x, x.join(0, fine), LARGEST, LARGEST - 1, 0);
        Due.amount(x, x.join(1, fine), -LARGEST, LARGEST - 1, 0);
        Due.amount(x, x.join(1, finest), -1, LARGEST, 0);
        Due.is("too fine", x.join(2, finest), -2);
        int near = x.value(LARGEST, 214749, 0);
        Due.amount(x, x.join(0, near), LARGEST, 214749, 0);
    }
}
