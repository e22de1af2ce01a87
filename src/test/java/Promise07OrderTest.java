/** Promise 7: order. */
public final class Promise07OrderTest {
    private static final int LITRES = Sample.LITRES;
    private static final long LARGEST = Sample.LARGEST;

    public static void main(String[] args) {
        lessSameMore();
        asNearAsCanBe();
        asFarAsCanBe();
        unitsDiffer();
        noSuchAmount();
        Due.end();
    }

    private static void both(String of, LitreFractions x, int less, int more) {
        Due.is(of, x.order(less, more), -1);
        Due.is(of + ", turned", x.order(more, less), 1);
    }

    private static void lessSameMore() {
        Due.sentence("-1, 0 or 1: a is less than b, the same, more");
        LitreFractions x = new LitreFractions();
        int third = x.value(1, 3, LITRES);
        int half = x.value(1, 2, LITRES);
        int minus = x.value(-1, 2, LITRES);
        int minusThird = x.value(-1, 3, LITRES);
        int zero = x.value(0, 1, LITRES);
        both("1/3 and 1/2", x, third, half);
        both("-1/2 and 1/3", x, minus, third);
        both("-1/2 and -1/3", x, minus, minusThird);
        both("0 and 1/3", x, zero, third);
        both("-1/3 and 0", x, minusThird, zero);
        Due.is("1/2 and 2/4", x.order(half, x.value(2, 4, LITRES)), 0);
        Due.is("1/2 and itself", x.order(half, half), 0);
        Due.is("0 and 0", x.order(zero, x.value(0, -3, LITRES)), 0);
        Due.is("order makes nothing", x.told(0, 3), 7);
    }

    private static void asNearAsCanBe() {
        Due.sentence("-1, 0 or 1: a is less than b, the same, more");
        LitreFractions x = new LitreFractions();
        int less = x.value(LARGEST - 2, LARGEST - 1, LITRES);
        int more = x.value(LARGEST - 1, LARGEST, LITRES);
        both("near 1", x, less, more);
        both("near -1", x, x.value(1 - LARGEST, LARGEST, LITRES), x.value(2 - LARGEST, LARGEST - 1, LITRES));
        both("near 0", x, x.value(1, LARGEST, LITRES), x.value(1, LARGEST - 1, LITRES));
        both("0 and the finest", x, x.value(0, 1, LITRES), x.value(1, LARGEST, LITRES));
        Due.is("the same", x.order(more, x.value(LARGEST - 1, LARGEST, LITRES)), 0);
    }

    private static void asFarAsCanBe() {
        Due.sentence("-1, 0 or 1: a is less than b, the same, more");
        LitreFractions x = new LitreFractions();
        int least = x.value(-LARGEST, 1, LITRES);
        int most = x.value(LARGEST, 1, LITRES);
        both("least and most", x, least, most);
        both("least and the finest", x, least, x.value(1, LARGEST, LITRES));
        both("the finest below 0 and most", x, x.value(-1, LARGEST, LITRES), most);
        both("the two largest", x, x.value(LARGEST - 1, 1, LITRES), most);
    }

    private static void unitsDiffer() {
        Due.sentence("2 their units differ");
        for (int u = 0; u < 5; u++) {
            for (int v = 0; v < 5; v++) {
                LitreFractions x = new LitreFractions();
                int a = x.value(2, 3, u);
                int b = x.value(2, 3, v);
                int c = x.value(1, 3, v);
                Due.is("units " + u + ", " + v, x.order(a, b), u == v ? 0 : 2);
                Due.is("units " + u + ", " + v + ", more", x.order(a, c), u == v ? 1 : 2);
            }
        }
    }

    private static void noSuchAmount() {
        Due.sentence("-3 there is no such amount");
        LitreFractions x = new LitreFractions();
        Due.is("none at all", x.order(0, 0), -3);
        x.value(1, 2, LITRES);
        x.value(1, 3, LITRES);
        for (int a : Sample.noAmounts(2)) {
            Due.is("order(" + a + ", 0)", x.order(a, 0), -3);
            Due.is("order(0, " + a + ")", x.order(0, a), -3);
            Due.is("order(" + a + ", " + a + ")", x.order(a, a), -3);
        }
        Due.is("order(0, 1)", x.order(0, 1), 1);
        Due.is("order(1, 0)", x.order(1, 0), -1);
    }
}
