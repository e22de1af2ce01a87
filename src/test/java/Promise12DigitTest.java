/** Promise 12: digit. */
public final class Promise12DigitTest {
    private static final long LARGEST = Sample.LARGEST;
    private static final int[] PARTS_BEHIND = {1, 2, -1, Integer.MIN_VALUE, Integer.MAX_VALUE};

    public static void main(String[] args) {
        ofTheSize();
        beforeThePoint();
        atLeastOne();
        behindThePoint();
        asManyAsItHas();
        otherwise30();
        noSuchAmount();
        iBelow0();
        Due.end();
    }

    private static void digits(long above, long below, String before, String behind) {
        LitreFractions x = new LitreFractions();
        int a = x.value(above, below, 2);
        part(x, a, 0, before);
        for (int part : PARTS_BEHIND) {
            part(x, a, part, behind);
        }
        Due.is("digit makes nothing", x.told(0, 3), 1);
    }

    private static void part(LitreFractions x, int a, int part, String due) {
        String of = "digit of " + x.told(a, 0) + "/" + x.told(a, 1) + " in part " + part + " at ";
        for (int i = 0; i < due.length(); i++) {
            Due.is(of + i, x.digit(a, part, i), due.charAt(i) - '0');
        }
        int[] none = {due.length(), due.length() + 1, 31, -1, Integer.MIN_VALUE, Integer.MAX_VALUE};
        for (int i : none) {
            Due.isThrown(of + i, () -> x.digit(a, part, i), IndexOutOfBoundsException.class);
        }
    }

    private static void ofTheSize() {
        Due.sentence("Decimal digit i of the size of an amount");
        digits(12345, 8, "3451", "125");
        digits(-12345, 8, "3451", "125");
        digits(-1, 20, "0", "05");
        digits(-LARGEST, 2, "3281473701", "5");
    }

    private static void beforeThePoint() {
        Due.sentence("part 0 those before the point, from that of ones on, upward");
        String before = "";
        long ten = 1;
        for (int many = 1; many <= 10; many++) {
            digits(ten, 1, before + "1", "");
            if (many > 1) {
                digits(ten - 1, 1, before.replace('0', '9'), "");
            }
            before += "0";
            ten *= 10;
        }
        digits(LARGEST, 1, "7463847412", "");
        digits(99, 10, "9", "9");
        digits(101, 10, "01", "1");
    }

    private static void atLeastOne() {
        Due.sentence("(at least one)");
        digits(0, 1, "0", "");
        digits(1, 2, "0", "5");
        digits(-1, 2, "0", "5");
        digits(LARGEST - 1, LARGEST, "0", "999999999534338712475420307589");
    }

    private static void behindThePoint() {
        Due.sentence("any other part those behind it, downward");
        digits(7, 1, "7", "");
        digits(-10, 1, "01", "");
        digits(1, 10, "0", "1");
        digits(10203, 1000, "01", "203");
    }

    private static void asManyAsItHas() {
        Due.sentence("as many as it has, if these are at most 30");
        for (int many = 1; many <= 30; many++) {
            LitreFractions x = new LitreFractions();
            int a = x.value(1, 1L << many, 0);
            int none = many;
            Due.is("the last of " + many, x.digit(a, 1, many - 1), 5);
            Due.isThrown("behind the last of " + many, () -> x.digit(a, 1, none), IndexOutOfBoundsException.class);
        }
        digits(1, 1073741824, "0", "000000000931322574615478515625");
        digits(3, 1073741824, "0", "000000002793967723846435546875");
        digits(1, 536870912, "0", "00000000186264514923095703125");
        digits(1, 1220703125, "0", "0000000008192");
    }

    private static void otherwise30() {
        Due.sentence("otherwise 30");
        digits(-1, 3, "0", "333333333333333333333333333333");
        digits(22, 7, "3", "142857142857142857142857142857");
        digits(1, LARGEST, "0", "000000000465661287524579692410");
        digits(1, 1001, "0", "000999000999000999000999000999");
        // The 30th is a 0, and a digit all the same.
        digits(10, 11, "0", "909090909090909090909090909090");
        digits(1, 1610612736, "0", "000000000620881716410319010416");
    }

    private static void noSuchAmount() {
        Due.sentence("-3 there is no such amount");
        LitreFractions x = new LitreFractions();
        Due.is("none at all", x.digit(0, 0, 0), -3);
        x.value(7, 2, 0);
        x.value(9, 4, 0);
        for (int a : Sample.noAmounts(2)) {
            Due.is("digit(" + a + ", 0, 0)", x.digit(a, 0, 0), -3);
            Due.is("digit(" + a + ", 1, 0)", x.digit(a, 1, 0), -3);
            Due.is("digit(" + a + ", 0, -1)", x.digit(a, 0, -1), -3);
            Due.is("digit(" + a + ", 1, 30)", x.digit(a, 1, 30), -3);
        }
        Due.is("digit(0, 0, 0)", x.digit(0, 0, 0), 3);
        Due.is("digit(1, 1, 0)", x.digit(1, 1, 0), 2);
    }

    private static void iBelow0() {
        Due.sentence("IndexOutOfBoundsException: i is below 0, or there are not so many");
        LitreFractions x = new LitreFractions();
        int a = x.value(725, 100, 0);
        Due.isRefused(x, "before, -1", () -> x.digit(a, 0, -1), IndexOutOfBoundsException.class);
        Due.is("before, 0", x.digit(a, 0, 0), 7);
        Due.isRefused(x, "before, 1", () -> x.digit(a, 0, 1), IndexOutOfBoundsException.class);
        Due.isRefused(x, "behind, -1", () -> x.digit(a, 1, -1), IndexOutOfBoundsException.class);
        Due.is("behind, 0", x.digit(a, 1, 0), 2);
        Due.is("behind, 1", x.digit(a, 1, 1), 5);
        Due.isRefused(x, "behind, 2", () -> x.digit(a, 1, 2), IndexOutOfBoundsException.class);
    }
}
