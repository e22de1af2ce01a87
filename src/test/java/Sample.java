/** What several tests begin with. */
final class Sample {
    static final int NUMBER = 0;
    static final int LITRES = 1;
    static final int KILOGRAMS = 2;
    static final int EXTRACT = 3;
    static final int ALCOHOL = 4;

    static final long LARGEST = 2147483647L;
    static final int MOST_AMOUNTS = 500;

    private Sample() {
    }

    /** Numbers that no amount has in an object with so many amounts. */
    static int[] noAmounts(int many) {
        return new int[] {-1, many, many + 1, MOST_AMOUNTS, Integer.MIN_VALUE, Integer.MAX_VALUE};
    }

    /**
     * So many amounts (4 or more): 0 is 1/2 litres, 1 is 1/3 kilograms, 2 is 0 litres, 3 is -1 litres, the others are
     * the number 2/3. Table 0 has a row, table 1 none, and there is one weight.
     */
    static LitreFractions filled(int many, long weight) {
        LitreFractions x = new LitreFractions();
        x.row(0, 0, 2, 4);
        x.weight(weight);
        x.value(1, 2, LITRES);
        x.value(1, 3, KILOGRAMS);
        x.value(0, 1, LITRES);
        x.value(-1, 1, LITRES);
        for (int i = 4; i < many; i++) {
            x.value(2, 3, NUMBER);
        }
        return x;
    }

    static LitreFractions weighted(long... weights) {
        LitreFractions x = new LitreFractions();
        for (long w : weights) {
            x.weight(w);
        }
        return x;
    }

    /** Rows are x, y, x, y and so on, all over this below. */
    static LitreFractions tabled(long below, long... rows) {
        LitreFractions x = new LitreFractions();
        for (int i = 0; i + 1 < rows.length; i += 2) {
            x.row(0, rows[i], rows[i + 1], below);
        }
        return x;
    }
}
