/** Promise 9: join. */
public final class Promise09JoinTest {
    private static final int NUMBER = Sample.NUMBER;
    private static final long LARGEST = Sample.LARGEST;

    public static void main(String[] args) {
        straightLines();
        whateverItsUnit();
        atRows();
        atAndBeyondTheFirst();
        atAndBeyondTheLast();
        oneRow();
        sixteenRows();
        noSuchAmount();
        noSuchTable();
        noRows();
        aboveTooLarge();
        belowTooLarge();
        widest();
        Due.end();
    }

    private static void joined(LitreFractions x, long above, long below, long dueAbove, long dueBelow) {
        Due.amount(x, x.join(0, x.value(above, below, NUMBER)), dueAbove, dueBelow, NUMBER);
    }

    private static void straightLines() {
        Due.sentence("joined in straight lines between rows");
        LitreFractions x = Sample.tabled(10, -10, 5, 0, 25, 30, -5);
        joined(x, -1, 2, 3, 2);
        joined(x, -1, 3, 11, 6);
        joined(x, 1, 1, 3, 2);
        joined(x, 5, 2, 0, 1);
        joined(x, 14, 5, -3, 10);
        LitreFractions level = Sample.tabled(3, 0, 4, 9, 4);
        joined(level, 1, 7, 4, 3);
    }

    private static void whateverItsUnit() {
        Due.sentence("The number that a table has at an amount, whatever its unit");
        LitreFractions x = Sample.tabled(1, 0, 0, 2, 6);
        for (int unit = 0; unit < 5; unit++) {
            Due.amount(x, x.join(0, x.value(-1, 1, unit)), 0, 1, NUMBER);
            Due.amount(x, x.join(0, x.value(1, 2, unit)), 3, 2, NUMBER);
            Due.amount(x, x.join(0, x.value(3, 1, unit)), 6, 1, NUMBER);
        }
    }

    private static void atRows() {
        Due.sentence("joined in straight lines between rows");
        LitreFractions x = Sample.tabled(2, 1, 10, 2, -10, 3, 7, 4, 7);
        joined(x, 1, 2, 5, 1);
        joined(x, 1, 1, -5, 1);
        joined(x, 3, 2, 7, 2);
        joined(x, 2, 1, 7, 2);
        // A hundredth before and behind the second row.
        joined(x, 99, 100, -24, 5);
        joined(x, 101, 100, -483, 100);
    }

    private static void atAndBeyondTheFirst() {
        Due.sentence("at and beyond both ends that of the end");
        LitreFractions x = Sample.tabled(1, 1, 1, 2, 2);
        joined(x, 1, 1, 1, 1);
        joined(x, LARGEST - 1, LARGEST, 1, 1);
        joined(x, LARGEST, LARGEST - 1, LARGEST, LARGEST - 1);
        joined(x, 0, 1, 1, 1);
        joined(x, -LARGEST, 1, 1, 1);
    }

    private static void atAndBeyondTheLast() {
        Due.sentence("at and beyond both ends that of the end");
        LitreFractions x = Sample.tabled(1, 1, 1, 2, 2);
        joined(x, 2, 1, 2, 1);
        joined(x, 2147483645, 1073741823, 2147483645, 1073741823);
        joined(x, 2147483647, 1073741823, 2, 1);
        joined(x, 3, 1, 2, 1);
        joined(x, LARGEST, 1, 2, 1);
    }

    private static void oneRow() {
        Due.sentence("at and beyond both ends that of the end");
        LitreFractions x = Sample.tabled(4, 4, 6);
        joined(x, 1, 1, 3, 2);
        joined(x, 0, 1, 3, 2);
        joined(x, 2, 1, 3, 2);
        joined(x, LARGEST, 1, 3, 2);
        joined(x, -LARGEST, 1, 3, 2);
    }

    private static void sixteenRows() {
        Due.sentence("joined in straight lines between rows");
        LitreFractions x = new LitreFractions();
        for (int i = 0; i < 16; i++) {
            x.row(0, i, i * i, 1);
        }
        for (int i = 0; i < 15; i++) {
            joined(x, i, 1, i * i, 1);
            joined(x, 2 * i + 1, 2, 2 * i * i + 2 * i + 1, 2);
        }
        joined(x, 15, 1, 225, 1);
        joined(x, 16, 1, 225, 1);
    }

    private static void noSuchAmount() {
        Due.sentence("-3 there is no such amount");
        LitreFractions x = Sample.tabled(1, 0, 5);
        Due.isRefused(x, "none at all", () -> x.join(0, 0), -3);
        x.value(1, 2, 1);
        x.value(1, 3, 1);
        for (int a : Sample.noAmounts(2)) {
            Due.isRefused(x, "join(0, " + a + ")", () -> x.join(0, a), -3);
            Due.isRefused(x, "no rows, join(1, " + a + ")", () -> x.join(1, a), -3);
        }
        Due.amount(x, x.join(0, 0), 5, 1, NUMBER);
        Due.amount(x, x.join(0, 1), 5, 1, NUMBER);
    }

    private static void noSuchTable() {
        Due.sentence("-3 there is no such .. table");
        LitreFractions x = new LitreFractions();
        int a = x.value(1, 2, 1);
        for (int table = 0; table < 4; table++) {
            x.row(table, 0, table, 1);
        }
        int[] none = {-1, 4, 5, Integer.MIN_VALUE, Integer.MAX_VALUE};
        for (int table : none) {
            Due.isRefused(x, "join(" + table + ", 0)", () -> x.join(table, a), -3);
        }
        Due.amount(x, x.join(0, a), 0, 1, NUMBER);
        Due.amount(x, x.join(3, a), 3, 1, NUMBER);
    }

    private static void noRows() {
        Due.sentence("-1 it has no rows");
        LitreFractions x = new LitreFractions();
        int a = x.value(1, 2, 1);
        for (int table = 0; table < 4; table++) {
            int empty = table;
            Due.isRefused(x, "join(" + empty + ", 0)", () -> x.join(empty, a), -1);
            x.row(table, 0, 0, 0);
            Due.isRefused(x, "after a refused row", () -> x.join(empty, a), -1);
            x.row(table, 0, 9, 1);
            Due.amount(x, x.join(table, a), 9, 1, NUMBER);
        }
    }

    private static void aboveTooLarge() {
        Due.sentence("both (the above without its sign) at most 2147483647 .. -2");
        LitreFractions x = Sample.tabled(1, 0, 1, 1, 2);
        x.row(1, 0, -1, 1);
        x.row(1, 1, -2, 1);
        int fine = x.value(1, LARGEST - 1, NUMBER);
        int finest = x.value(1, LARGEST, NUMBER);
        Due.amount(x, x.join(0, fine), LARGEST, LARGEST - 1, NUMBER);
        Due.isRefused(x, "2147483648 / 2147483647", () -> x.join(0, finest), -2);
        Due.amount(x, x.join(1, fine), -LARGEST, LARGEST - 1, NUMBER);
        Due.isRefused(x, "-2147483648 / 2147483647", () -> x.join(1, finest), -2);
    }

    private static void belowTooLarge() {
        Due.sentence("both (the above without its sign) at most 2147483647 .. -2");
        LitreFractions x = Sample.tabled(1, 0, 0, 2, 1);
        x.row(1, 0, 0, 1);
        x.row(1, 1, 1, 1);
        int fine = x.value(1, 1073741823, NUMBER);
        int tooFine = x.value(1, 1073741824, NUMBER);
        int finest = x.value(1, LARGEST, NUMBER);
        Due.amount(x, x.join(0, fine), 1, 2147483646, NUMBER);
        Due.isRefused(x, "1 / 2147483648", () -> x.join(0, tooFine), -2);
        Due.isRefused(x, "1 / 2 * 2147483647", () -> x.join(0, finest), -2);
        Due.amount(x, x.join(1, finest), 1, LARGEST, NUMBER);
    }

    private static void widest() {
        Due.sentence("joined in straight lines between rows");
        LitreFractions x = Sample.tabled(1, -10000, -10000, 10000, 10000);
        x.row(1, -10000, 10000, 100);
        x.row(1, 10000, -10000, 100);
        int fine = x.value(LARGEST, LARGEST - 1, NUMBER);
        int finest = x.value(1, LARGEST, NUMBER);
        int nearTheEnd = x.value(LARGEST, 214749, NUMBER);
        Due.amount(x, x.join(0, fine), LARGEST, LARGEST - 1, NUMBER);
        Due.amount(x, x.join(1, fine), -LARGEST, LARGEST - 1, NUMBER);
        Due.amount(x, x.join(1, finest), -1, LARGEST, NUMBER);
        Due.amount(x, x.join(0, nearTheEnd), LARGEST, 214749, NUMBER);
    }
}
