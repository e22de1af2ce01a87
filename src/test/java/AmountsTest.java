/** Promises 1 to 5, 7, 13 and 14: making, adding, multiplying, dividing, comparing and telling amounts. */
public final class AmountsTest {
    private static final int NUMBER = 0;
    private static final int LITRES = 1;
    private static final int KILOGRAMS = 2;
    private static final int EXTRACT = 3;
    private static final int ALCOHOL = 4;
    private static final long LARGEST = 2147483647L;
    private static final long FAR = 1000000000000000000L;

    public static void main(String[] args) {
        aNewObjectIsEmpty();
        values();
        wrongValues();
        sums();
        largestSums();
        unitsOfProducts();
        products();
        unitsOfQuotients();
        quotients();
        orders();
        toldAnswers();
        the501st();
        clearing();
        Due.end();
    }

    private static void isEmpty(String which, LitreFractions x) {
        Due.is(which + " amounts", x.told(0, 3), 0);
        Due.is(which + " weights", x.told(0, 4), 0);
        for (int table = 0; table < 4; table++) {
            Due.is(which + " rows of " + table, x.told(table, 5), 0);
        }
        Due.is(which + " told(0, 0)", x.told(0, 0), -9);
        Due.is(which + " add(0, 0)", x.add(0, 0), -3);
    }

    private static void aNewObjectIsEmpty() {
        LitreFractions used = new LitreFractions();
        used.value(1, 2, LITRES);
        used.weight(3);
        used.row(0, 1, 1, 1);
        isEmpty("new:", new LitreFractions());
    }

    private static void values() {
        LitreFractions x = new LitreFractions();
        Due.is("the first", x.value(6, 4, LITRES), 0);
        Due.amount(x, 0, 3, 2, LITRES);
        Due.is("the second", x.value(-6, 4, NUMBER), 1);
        Due.amount(x, 1, -3, 2, NUMBER);
        Due.amount(x, x.value(6, -4, KILOGRAMS), -3, 2, KILOGRAMS);
        Due.amount(x, x.value(-6, -4, EXTRACT), 3, 2, EXTRACT);
        Due.amount(x, x.value(0, -9, ALCOHOL), 0, 1, ALCOHOL);
        Due.amount(x, x.value(LARGEST, 1, NUMBER), LARGEST, 1, NUMBER);
        Due.amount(x, x.value(-LARGEST, LARGEST - 1, NUMBER), -LARGEST, LARGEST - 1, NUMBER);
        Due.amount(x, x.value(FAR - 1, 1 - FAR, NUMBER), -1, 1, NUMBER);
        Due.amount(x, x.value(0, FAR - 1, NUMBER), 0, 1, NUMBER);
        // Two neighbours of the Fibonacci row need the most steps to their common divisor.
        Due.is("the most steps", x.value(679891637638612258L, 420196140727489673L, NUMBER), -2);
        Due.amount(x, x.value(6 * 12586269025L, 9 * 12586269025L, NUMBER), 2, 3, NUMBER);
    }

    private static void wrongValues() {
        LitreFractions x = new LitreFractions();
        Due.isThrown("value(1, 0, 0)", () -> x.value(1, 0, 0), ArithmeticException.class);
        Due.isThrown("value(0, 0, 0)", () -> x.value(0, 0, 0), ArithmeticException.class);
        Due.isThrown("value(1, 0, 5)", () -> x.value(1, 0, 5), ArithmeticException.class);
        Due.isThrown("value(10^18, 0, 0)", () -> x.value(FAR, 0, 0), ArithmeticException.class);
        Due.is("unit 5", x.value(1, 1, 5), -3);
        Due.is("unit -1", x.value(1, 1, -1), -3);
        Due.is("unit least", x.value(1, 1, Integer.MIN_VALUE), -3);
        Due.is("unit most", x.value(1, 1, Integer.MAX_VALUE), -3);
        long[] far = {FAR, -FAR, Long.MAX_VALUE, Long.MIN_VALUE};
        for (long part : far) {
            Due.is("above " + part, x.value(part, 1, NUMBER), -3);
            Due.is("below " + part, x.value(1, part, NUMBER), -3);
            Due.is("both " + part, x.value(part, part, NUMBER), -3);
        }
        Due.is("-3 is told before -2", x.value(LARGEST + 1, 1, 5), -3);
        Due.is("above too large", x.value(LARGEST + 1, 1, NUMBER), -2);
        Due.is("above too small", x.value(-LARGEST - 1, 1, NUMBER), -2);
        Due.is("below too large", x.value(1, LARGEST + 1, NUMBER), -2);
        Due.is("below too large, negative", x.value(1, -LARGEST - 1, NUMBER), -2);
        Due.is("none of them was made", x.told(0, 3), 0);
    }

    private static void sums() {
        LitreFractions x = new LitreFractions();
        int sixth = x.value(1, 6, LITRES);
        int tenth = x.value(-1, 10, LITRES);
        int kilogram = x.value(1, 1, KILOGRAMS);
        Due.amount(x, x.add(sixth, tenth), 1, 15, LITRES);
        Due.amount(x, x.add(tenth, sixth), 1, 15, LITRES);
        Due.amount(x, x.add(sixth, sixth), 1, 3, LITRES);
        Due.amount(x, x.add(kilogram, kilogram), 2, 1, KILOGRAMS);
        int minus = x.value(-1, 6, LITRES);
        Due.amount(x, x.add(sixth, minus), 0, 1, LITRES);
        Due.is("other units", x.add(sixth, kilogram), -1);
        long many = x.told(0, 3);
        int[] none = {-1, (int) many, 499, 500, Integer.MIN_VALUE, Integer.MAX_VALUE};
        for (int a : none) {
            Due.is("add(" + a + ", 0)", x.add(a, 0), -3);
            Due.is("add(0, " + a + ")", x.add(0, a), -3);
        }
        Due.is("nothing was made", x.told(0, 3), many);
    }

    private static void largestSums() {
        LitreFractions x = new LitreFractions();
        int large = x.value(LARGEST, 1, NUMBER);
        int small = x.value(-LARGEST, 1, NUMBER);
        int one = x.value(1, 1, NUMBER);
        int fine = x.value(1, LARGEST, NUMBER);
        int finer = x.value(LARGEST, LARGEST - 1, NUMBER);
        Due.is("too large", x.add(large, one), -2);
        Due.is("too large by far", x.add(large, large), -2);
        Due.is("too small", x.add(small, small), -2);
        Due.is("too fine", x.add(large, fine), -2);
        Due.is("too fine and near 2^63", x.add(finer, large), -2);
        Due.amount(x, x.add(large, small), 0, 1, NUMBER);
        int half = x.value(LARGEST, 2, NUMBER);
        Due.amount(x, x.add(half, half), LARGEST, 1, NUMBER);
        int almost = x.value(LARGEST - 1, LARGEST, NUMBER);
        Due.amount(x, x.add(almost, fine), 1, 1, NUMBER);
    }

    private static final int[][] PRODUCTS = {
        {NUMBER, LITRES, KILOGRAMS, EXTRACT, ALCOHOL},
        {LITRES, -1, -1, -1, LITRES},
        {KILOGRAMS, -1, -1, KILOGRAMS, -1},
        {EXTRACT, -1, KILOGRAMS, -1, -1},
        {ALCOHOL, LITRES, -1, -1, -1},
    };

    private static void unitsOfProducts() {
        for (int u = 0; u < 5; u++) {
            for (int v = 0; v < 5; v++) {
                LitreFractions x = new LitreFractions();
                int a = x.value(2, 3, u);
                int b = x.value(5, 7, v);
                int made = x.times(a, b);
                if (PRODUCTS[u][v] < 0) {
                    Due.is("times of units " + u + ", " + v, made, -1);
                } else {
                    Due.amount(x, made, 10, 21, PRODUCTS[u][v]);
                }
            }
        }
    }

    private static void products() {
        LitreFractions x = new LitreFractions();
        int a = x.value(-4, 9, NUMBER);
        int b = x.value(3, 8, LITRES);
        int zero = x.value(0, 1, NUMBER);
        int large = x.value(LARGEST, 1, NUMBER);
        int fine = x.value(1, LARGEST, NUMBER);
        int two = x.value(2, 1, NUMBER);
        int half = x.value(1, 2, NUMBER);
        int minus = x.value(-LARGEST, 1, LITRES);
        Due.amount(x, x.times(a, b), -1, 6, LITRES);
        Due.amount(x, x.times(a, a), 16, 81, NUMBER);
        Due.amount(x, x.times(zero, b), 0, 1, LITRES);
        Due.amount(x, x.times(large, fine), 1, 1, NUMBER);
        Due.is("too large", x.times(large, two), -2);
        Due.is("too large by far", x.times(large, large), -2);
        Due.is("too small by far", x.times(large, minus), -2);
        Due.is("too fine", x.times(fine, half), -2);
        Due.is("too fine by far", x.times(fine, fine), -2);
        Due.is("litres with litres, too large too", x.times(minus, minus), -1);
        Due.is("no such a", x.times(99, 0), -3);
        Due.is("no such b", x.times(0, 99), -3);
        Due.is("negative a", x.times(-1, 0), -3);
        Due.is("negative b", x.times(0, -1), -3);
    }

    private static final int[][] QUOTIENTS = {
        {NUMBER, -1, -1, -1, -1},
        {LITRES, NUMBER, -1, -1, LITRES},
        {KILOGRAMS, -1, NUMBER, KILOGRAMS, -1},
        {EXTRACT, -1, -1, NUMBER, -1},
        {ALCOHOL, -1, -1, -1, NUMBER},
    };

    private static void unitsOfQuotients() {
        for (int u = 0; u < 5; u++) {
            for (int v = 0; v < 5; v++) {
                LitreFractions x = new LitreFractions();
                int a = x.value(2, 3, u);
                int b = x.value(5, 7, v);
                int zero = x.value(0, 1, v);
                int made = x.over(a, b);
                if (QUOTIENTS[u][v] < 0) {
                    Due.is("over of units " + u + ", " + v, made, -1);
                    Due.is("-1 is told before the exception", x.over(a, zero), -1);
                } else {
                    Due.amount(x, made, 14, 15, QUOTIENTS[u][v]);
                    Due.isThrown("by 0", () -> x.over(a, zero), ArithmeticException.class);
                }
            }
        }
    }

    private static void quotients() {
        LitreFractions x = new LitreFractions();
        int a = x.value(4, 9, LITRES);
        int b = x.value(-8, 3, NUMBER);
        int zero = x.value(0, 1, NUMBER);
        int large = x.value(-LARGEST, 1, NUMBER);
        int fine = x.value(-1, LARGEST, NUMBER);
        Due.amount(x, x.over(a, b), -1, 6, LITRES);
        Due.amount(x, x.over(b, b), 1, 1, NUMBER);
        Due.amount(x, x.over(zero, b), 0, 1, NUMBER);
        Due.amount(x, x.over(large, large), 1, 1, NUMBER);
        Due.is("too large", x.over(large, fine), -2);
        Due.is("too fine", x.over(fine, large), -2);
        Due.is("no such a", x.over(99, zero), -3);
        Due.is("no such b", x.over(zero, 99), -3);
        Due.is("negative a", x.over(-1, zero), -3);
        Due.is("negative b", x.over(zero, -1), -3);
        long many = x.told(0, 3);
        Due.isThrown("0 by 0", () -> x.over(zero, zero), ArithmeticException.class);
        Due.is("nothing was made", x.told(0, 3), many);
    }

    private static void orders() {
        LitreFractions x = new LitreFractions();
        int third = x.value(1, 3, LITRES);
        int half = x.value(1, 2, LITRES);
        int minus = x.value(-1, 2, LITRES);
        int same = x.value(2, 4, LITRES);
        int kilograms = x.value(1, 2, KILOGRAMS);
        int near = x.value(LARGEST - 1, LARGEST, LITRES);
        int nearer = x.value(LARGEST - 2, LARGEST - 1, LITRES);
        Due.is("1/3 and 1/2", x.order(third, half), -1);
        Due.is("1/2 and 1/3", x.order(half, third), 1);
        Due.is("-1/2 and 1/3", x.order(minus, third), -1);
        Due.is("1/2 and -1/2", x.order(half, minus), 1);
        Due.is("1/2 and 2/4", x.order(half, same), 0);
        Due.is("1/2 and itself", x.order(half, half), 0);
        Due.is("two of the nearest", x.order(near, nearer), 1);
        Due.is("two of the nearest, turned", x.order(nearer, near), -1);
        Due.is("litres and kilograms", x.order(half, kilograms), 2);
        Due.is("no such a", x.order(99, half), -3);
        Due.is("no such b", x.order(half, 99), -3);
        Due.is("negative a", x.order(-1, half), -3);
        Due.is("negative b", x.order(half, -1), -3);
    }

    private static void toldAnswers() {
        LitreFractions x = new LitreFractions();
        x.value(-7, 3, ALCOHOL);
        x.weight(5);
        x.weight(6);
        x.row(3, 1, 2, 3);
        Due.is("above", x.told(0, 0), -7);
        Due.is("below", x.told(0, 1), 3);
        Due.is("unit", x.told(0, 2), ALCOHOL);
        int[] none = {-1, 1, 499, 500, Integer.MIN_VALUE, Integer.MAX_VALUE};
        for (int a : none) {
            for (int what = 0; what < 3; what++) {
                Due.is("told(" + a + ", " + what + ")", x.told(a, what), -9);
            }
            Due.is("amounts, whatever a", x.told(a, 3), 1);
            Due.is("weights, whatever a", x.told(a, 4), 2);
        }
        Due.is("rows of table 3", x.told(3, 5), 1);
        Due.is("rows of table 2", x.told(2, 5), 0);
        Due.is("rows of table 4", x.told(4, 5), -9);
        Due.is("rows of table -1", x.told(-1, 5), -9);
        Due.is("what 6", x.told(0, 6), -9);
        Due.is("what -1", x.told(0, -1), -9);
        Due.is("what most", x.told(0, Integer.MAX_VALUE), -9);
    }

    private static void the501st() {
        LitreFractions x = new LitreFractions();
        x.row(0, 0, 0, 1);
        x.weight(1);
        for (int i = 0; i < 499; i++) {
            Due.is("amount " + i, x.value(i + 1, 1, LITRES), i);
        }
        Due.is("the 500th", x.value(0, 1, LITRES), 499);
        Due.is("value", x.value(1, 1, LITRES), -2);
        Due.is("add", x.add(0, 0), -2);
        Due.is("times before -2", x.times(0, 0), -1);
        Due.is("over", x.over(0, 0), -2);
        Due.isThrown("over 0 before -2", () -> x.over(0, 499), ArithmeticException.class);
        Due.is("round", x.round(0, 0, 1), -2);
        Due.is("join", x.join(0, 0), -2);
        Due.is("share", x.share(0, 0), -2);
        Due.is("how many", x.told(0, 3), 500);
    }

    private static void clearing() {
        LitreFractions x = new LitreFractions();
        for (int i = 0; i < 400; i++) {
            x.value(i, 7, KILOGRAMS);
        }
        for (int i = 0; i < 16; i++) {
            x.weight(1);
            x.row(i % 4, i, i, 10);
        }
        x.clear();
        isEmpty("cleared:", x);
        Due.is("join after clear", x.join(0, 0), -3);
        Due.is("numbered from 0 again", x.value(1, 2, LITRES), 0);
        Due.is("no rows after clear", x.join(0, 0), -1);
        Due.is("no weights after clear", x.share(0, 0), -3);
        Due.is("another below after clear", x.row(0, -5, 3, 4), true);
        Due.amount(x, x.join(0, 0), 3, 4, NUMBER);
        Due.is("a weight after clear", x.weight(0), true);
        Due.is("all weights are 0 after clear", x.share(0, 0), -1);
    }
}
