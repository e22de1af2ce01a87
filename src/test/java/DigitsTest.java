/** Promise 12: the decimal digits of an amount's size. */
public final class DigitsTest {
    private static final long LARGEST = 2147483647L;

    public static void main(String[] args) {
        digits(12345, 8, "3451", "125");
        digits(-12345, 8, "3451", "125");
        digits(0, 1, "0", "");
        digits(7, 1, "7", "");
        digits(-10, 1, "01", "");
        digits(1000, 1, "0001", "");
        digits(1, 20, "0", "05");
        digits(-1, 3, "0", "333333333333333333333333333333");
        digits(22, 7, "3", "142857142857142857142857142857");
        digits(1, 1073741824, "0", "000000000931322574615478515625");
        digits(1, 1220703125, "0", "0000000008192");
        digits(1, LARGEST, "0", "000000000465661287524579692410");
        digits(LARGEST, 1, "7463847412", "");
        digits(-LARGEST, 2, "3281473701", "5");
        digits(LARGEST - 1, LARGEST, "0", "999999999534338712475420307589");
        wrongCalls();
        Due.end();
    }

    private static void digits(long above, long below, String before, String behind) {
        LitreFractions x = new LitreFractions();
        int a = x.value(above, below, 2);
        part(x, a, 0, before);
        part(x, a, 1, behind);
        part(x, a, -1, behind);
        part(x, a, Integer.MIN_VALUE, behind);
    }

    private static void part(LitreFractions x, int a, int part, String due) {
        String of = "digit of " + x.told(a, 0) + "/" + x.told(a, 1) + " in part " + part + " at ";
        for (int i = 0; i < due.length(); i++) {
            Due.is(of + i, x.digit(a, part, i), due.charAt(i) - '0');
        }
        int[] none = {due.length(), due.length() + 1, 31, -1, Integer.MIN_VALUE, Integer.MAX_VALUE};
        for (int i : none) {
            Due.isThrown(of + i, () -> x.digit(a, part, i), IndexOutOfBoundsException.class);
        }
    }

    private static void wrongCalls() {
        LitreFractions x = new LitreFractions();
        Due.is("no amounts", x.digit(0, 0, 0), -3);
        x.value(1, 2, 0);
        Due.is("-3 is told before the exception", x.digit(1, 0, -1), -3);
        Due.is("no such amount", x.digit(1, 1, 0), -3);
        Due.is("a negative amount's number", x.digit(-1, 0, 0), -3);
        Due.is("no amount at all", x.digit(Integer.MAX_VALUE, 1, 99), -3);
    }
}
