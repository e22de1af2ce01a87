/** Promise 8: row. */
public final class Promise08RowTest {
    private static final int[] FAR_TABLES = {-1, 4, 5, Integer.MIN_VALUE, Integer.MAX_VALUE};

    public static void main(String[] args) {
        behindThoseItHas();
        noSuchTable();
        sixteenRows();
        belowIsNot1To100();
        anotherBelow();
        xAboveIsNotInside();
        yAboveIsNotInside();
        xIsNotMore();
        refusedRowsLeaveNothing();
        tablesAreApart();
        Due.end();
    }

    private static void isRefused(LitreFractions x, int table, long xAbove, long yAbove, long below) {
        String call = "row(" + table + ", " + xAbove + ", " + yAbove + ", " + below + ")";
        Due.isRefused(x, call, () -> x.row(table, xAbove, yAbove, below) ? 1 : 0, 0);
    }

    private static void behindThoseItHas() {
        Due.sentence("A row of a table 0 .. 3 behind those it has: at xAbove / below the number yAbove / below");
        LitreFractions x = new LitreFractions();
        Due.is("the first", x.row(0, 3, 7, 5), true);
        Due.is("the second", x.row(0, 4, -2, 5), true);
        Due.is("rows", x.told(0, 5), 2);
        Due.amount(x, x.join(0, x.value(3, 5, 1)), 7, 5, 0);
        Due.amount(x, x.join(0, x.value(4, 5, 1)), -2, 5, 0);
    }

    private static void noSuchTable() {
        Due.sentence("False when there is no such table");
        LitreFractions x = new LitreFractions();
        for (int table : FAR_TABLES) {
            isRefused(x, table, 0, 0, 1);
        }
        Due.is("table 0", x.row(0, 0, 0, 1), true);
        Due.is("table 3", x.row(3, 0, 0, 1), true);
        Due.same("rows", Due.countsOf(x), "0 amounts, 0 weights, rows 1 0 0 1");
    }

    private static void sixteenRows() {
        Due.sentence("False when .. it has 16 rows");
        LitreFractions x = new LitreFractions();
        for (int i = 0; i < 16; i++) {
            Due.is("row " + i, x.row(2, i, i * i, 2), true);
            Due.is("rows", x.told(2, 5), i + 1);
        }
        isRefused(x, 2, 16, 0, 2);
        isRefused(x, 2, 10000, 0, 2);
        Due.amount(x, x.join(2, x.value(8, 1, 0)), 225, 2, 0);
        Due.amount(x, x.join(2, x.value(29, 4, 0)), 421, 4, 0);
        Due.is("another table has room", x.row(3, 16, 0, 2), true);
    }

    private static void belowIsNot1To100() {
        Due.sentence("False when .. below is not 1 .. 100");
        LitreFractions x = new LitreFractions();
        long[] belows = {0, -1, 101, 4294967297L, Long.MIN_VALUE, Long.MAX_VALUE};
        for (long below : belows) {
            isRefused(x, 0, 0, 0, below);
        }
        Due.is("below 1", x.row(0, 0, 0, 1), true);
        Due.is("below 100", x.row(1, 0, 0, 100), true);
    }

    private static void anotherBelow() {
        Due.sentence("False when .. below is .. another one than that of the table's first row");
        LitreFractions x = new LitreFractions();
        x.row(0, 5, 5, 10);
        isRefused(x, 0, 6, 5, 9);
        isRefused(x, 0, 6, 5, 11);
        // The same x and y as a good row over 10 would have.
        isRefused(x, 0, 12, 10, 20);
        Due.is("the same below", x.row(0, 6, 5, 10), true);
        isRefused(x, 0, 7, 5, 11);
        Due.is("the same below again", x.row(0, 7, 5, 10), true);
        Due.is("another table's first row", x.row(1, 7, 5, 11), true);
        isRefused(x, 1, 8, 5, 10);
    }

    private static void xAboveIsNotInside() {
        Due.sentence("False when .. above's are not -10,000 .. 10,000");
        LitreFractions x = new LitreFractions();
        long[] aboves = {-10001, 10001, 4294967296L, Long.MIN_VALUE, Long.MAX_VALUE};
        for (long above : aboves) {
            isRefused(x, 0, above, 0, 1);
            isRefused(x, 0, above, 0, 100);
        }
        Due.is("x least", x.row(0, -10000, 0, 1), true);
        isRefused(x, 0, 10001, 0, 1);
        Due.is("x most", x.row(0, 10000, 0, 1), true);
        isRefused(x, 0, 10001, 0, 1);
    }

    private static void yAboveIsNotInside() {
        Due.sentence("False when .. above's are not -10,000 .. 10,000");
        LitreFractions x = new LitreFractions();
        long[] aboves = {-10001, 10001, 4294967296L, Long.MIN_VALUE, Long.MAX_VALUE};
        for (long above : aboves) {
            isRefused(x, 0, 0, above, 1);
            isRefused(x, 0, 0, above, 100);
        }
        Due.is("y least", x.row(0, 0, -10000, 1), true);
        Due.is("y most", x.row(0, 1, 10000, 1), true);
        Due.amount(x, x.join(0, x.value(0, 1, 0)), -10000, 1, 0);
        Due.amount(x, x.join(0, x.value(1, 1, 0)), 10000, 1, 0);
    }

    private static void xIsNotMore() {
        Due.sentence("False when .. x is not more than that of the row before");
        LitreFractions x = new LitreFractions();
        x.row(0, 5, 5, 10);
        isRefused(x, 0, 5, 5, 10);
        isRefused(x, 0, 5, 6, 10);
        isRefused(x, 0, 4, 6, 10);
        isRefused(x, 0, -10000, 6, 10);
        Due.is("one more", x.row(0, 6, 6, 10), true);
        isRefused(x, 0, 6, 7, 10);
        Due.is("one more again", x.row(0, 7, 7, 10), true);
        x.row(1, -5, 0, 1);
        isRefused(x, 1, -6, 0, 1);
        Due.is("one more below 0", x.row(1, -4, 0, 1), true);
    }

    private static void refusedRowsLeaveNothing() {
        Due.sentence("False when there is no such table .. or x is not more than that of the row before");
        LitreFractions x = new LitreFractions();
        isRefused(x, 0, 9000, 10001, 50);
        isRefused(x, 0, 10001, 0, 50);
        Due.is("a refused first row tells no below and no x", x.row(0, 1, 1, 10), true);
        isRefused(x, 0, 9000, 10001, 10);
        isRefused(x, 0, 9000, 0, 50);
        Due.is("a refused row is no row before", x.row(0, 2, 2, 10), true);
        Due.amount(x, x.join(0, x.value(9, 1, 0)), 1, 5, 0);
    }

    private static void tablesAreApart() {
        Due.sentence("A row of a table 0 .. 3");
        LitreFractions x = new LitreFractions();
        int zero = x.value(0, 1, 0);
        for (int table = 0; table < 4; table++) {
            Due.is("row of " + table, x.row(table, 10 - table, table + 1, 2 * table + 3), true);
        }
        for (int table = 0; table < 4; table++) {
            Due.is("rows", x.told(table, 5), 1);
            Due.amount(x, x.join(table, zero), table + 1, 2 * table + 3, 0);
        }
    }
}
