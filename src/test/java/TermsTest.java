/** The sentences of "Terms", which bind every call: numbers, the 501st, lowest terms, units, which answer counts first. */
public final class TermsTest {
    private static final int NUMBER = Sample.NUMBER;
    private static final int LITRES = Sample.LITRES;
    private static final int KILOGRAMS = Sample.KILOGRAMS;
    private static final long LARGEST = Sample.LARGEST;
    private static final long FAR = 1000000000000000000L;
    private static final Class<ArithmeticException> DIVISION = ArithmeticException.class;

    /** A call that makes an amount of a filled object. */
    interface Maker {
        int make(LitreFractions x);
    }

    private static final String[] NAMES = {"value", "add", "times", "over", "round", "join", "share"};
    private static final Maker[] MAKERS = {
        x -> x.value(1, 2, LITRES),
        x -> x.add(0, 0),
        x -> x.times(0, 4),
        x -> x.over(0, 0),
        x -> x.round(0, 0, 1),
        x -> x.join(0, 0),
        x -> x.share(0, 0),
    };

    public static void main(String[] args) {
        numberedFrom0();
        refusedCallsTakeNoNumber();
        atMost500();
        aFullObjectStillAnswers();
        lowestTerms();
        belowAbove0();
        zeroIsOverOne();
        units();
        firstToldOfValue();
        firstToldOfAdd();
        firstToldOfTimes();
        firstToldOfOver();
        firstToldOfRound();
        firstToldOfJoin();
        firstToldOfShare();
        firstToldOfDigit();
        firstToldIsNotTooLarge();
        Due.end();
    }

    private static void numberedFrom0() {
        Due.sentence("AMOUNTS are numbered from 0 as they are made");
        LitreFractions x = new LitreFractions();
        Due.is("the first", x.value(9, 1, NUMBER), 0);
        Due.is("the second, the same", x.value(9, 1, NUMBER), 1);
        LitreFractions y = Sample.filled(5, 1);
        for (int i = 0; i < MAKERS.length; i++) {
            Due.is(NAMES[i], MAKERS[i].make(y), 5 + i);
        }
        Due.is("how many", y.told(0, 3), 5 + MAKERS.length);
    }

    private static void refusedCallsTakeNoNumber() {
        Due.sentence("An amount that would be larger .. is not made");
        LitreFractions x = new LitreFractions();
        Due.isRefused(x, "the first is too large", () -> x.value(LARGEST + 1, 1, NUMBER), -2);
        Due.is("the first that is made", x.value(LARGEST, 1, NUMBER), 0);
        Due.isRefused(x, "a sum too large", () -> x.add(0, 0), -2);
        Due.isRefused(x, "a product too large", () -> x.times(0, 0), -2);
        Due.is("the second", x.value(1, LARGEST, LITRES), 1);
        Due.isRefused(x, "other units", () -> x.add(0, 1), -1);
        Due.isRefused(x, "no such amount", () -> x.add(0, 2), -3);
        Due.is("the third", x.over(0, 0), 2);
        Due.amount(x, 0, LARGEST, 1, NUMBER);
        Due.amount(x, 1, 1, LARGEST, LITRES);
    }

    private static void atMost500() {
        Due.sentence("at most 500 .. or the 501st, is not made: -2");
        for (int i = 0; i < MAKERS.length; i++) {
            LitreFractions x = Sample.filled(499, 1);
            Due.is("the 500th by " + NAMES[i], MAKERS[i].make(x), 499);
            Due.is("the 501st by " + NAMES[i], MAKERS[i].make(x), -2);
            Due.is("how many", x.told(0, 3), 500);
            Due.is("the 500th is there", x.told(499, 2), i == 3 || i == 5 ? NUMBER : LITRES);
            Due.is("the 501st is not", x.told(500, 2), -9);
            Due.is("nor is a 502nd by " + NAMES[i], MAKERS[i].make(x), -2);
        }
    }

    private static void aFullObjectStillAnswers() {
        Due.sentence("at most 500");
        LitreFractions x = Sample.filled(500, 1);
        Due.is("order", x.order(3, 0), -1);
        Due.is("order of the last", x.order(499, 499), 0);
        Due.is("digit", x.digit(499, 1, 0), 6);
        Due.is("row", x.row(0, 1, 1, 4), true);
        Due.is("weight", x.weight(1), true);
        Due.is("told", x.told(499, 0), 2);
    }

    private static void lowestTerms() {
        Due.sentence("Each is a fraction in lowest terms");
        LitreFractions x = Sample.tabled(2, 0, 0, 4, 2);
        x.weight(1);
        x.weight(1);
        int quarter = x.value(25, 100, LITRES);
        Due.amount(x, quarter, 1, 4, LITRES);
        Due.amount(x, x.add(quarter, quarter), 1, 2, LITRES);
        int twoThirds = x.value(2, 3, NUMBER);
        Due.amount(x, x.times(quarter, twoThirds), 1, 6, LITRES);
        Due.amount(x, x.over(twoThirds, twoThirds), 1, 1, NUMBER);
        Due.amount(x, x.round(twoThirds, 0, 4), 1, 2, NUMBER);
        Due.amount(x, x.join(0, twoThirds), 1, 3, NUMBER);
        Due.amount(x, x.share(quarter, 1), 1, 8, LITRES);
        Due.amount(x, x.value(-25, 100, LITRES), -1, 4, LITRES);
    }

    private static void belowAbove0() {
        Due.sentence("its below above 0");
        LitreFractions x = new LitreFractions();
        int minus = x.value(1, -2, LITRES);
        int plus = x.value(-1, -2, LITRES);
        Due.amount(x, minus, -1, 2, LITRES);
        Due.amount(x, plus, 1, 2, LITRES);
        Due.amount(x, x.over(plus, minus), -1, 1, NUMBER);
        Due.amount(x, x.over(minus, minus), 1, 1, NUMBER);
    }

    private static void zeroIsOverOne() {
        Due.sentence("Each is a fraction in lowest terms");
        LitreFractions x = Sample.tabled(7, 0, 0);
        x.weight(3);
        int zero = x.value(0, 9, LITRES);
        Due.amount(x, zero, 0, 1, LITRES);
        Due.amount(x, x.value(0, -9, LITRES), 0, 1, LITRES);
        Due.amount(x, x.add(x.value(1, 9, LITRES), x.value(-1, 9, LITRES)), 0, 1, LITRES);
        Due.amount(x, x.times(zero, x.value(-1, 9, NUMBER)), 0, 1, LITRES);
        Due.amount(x, x.over(zero, x.value(-1, 9, NUMBER)), 0, 1, LITRES);
        Due.amount(x, x.round(x.value(1, 9, LITRES), 0, 4), 0, 1, LITRES);
        Due.amount(x, x.round(x.value(-1, 9, LITRES), 1, 4), 0, 1, LITRES);
        Due.amount(x, x.join(0, zero), 0, 1, NUMBER);
        Due.amount(x, x.share(zero, 0), 0, 1, LITRES);
    }

    private static void units() {
        Due.sentence("a UNIT: 0 a number, 1 litres, 2 kilograms, 3 a share of extract, 4 a share of alcohol");
        LitreFractions x = new LitreFractions();
        for (int unit = 0; unit < 5; unit++) {
            Due.amount(x, x.value(1, 7, unit), 1, 7, unit);
        }
        Due.isRefused(x, "unit -1", () -> x.value(1, 7, -1), -3);
        Due.isRefused(x, "unit 5", () -> x.value(1, 7, 5), -3);
    }

    private static void firstTold() {
        Due.sentence("Of several answers below 0 that fit the first one told counts; where an exception is told first, that");
    }

    private static void firstToldOfValue() {
        firstTold();
        LitreFractions x = Sample.filled(500, 1);
        Due.isThrown("full, below 0", () -> x.value(1, 0, NUMBER), DIVISION);
        Due.isThrown("below 0, unit 5", () -> x.value(1, 0, 5), DIVISION);
        Due.isThrown("below 0, unit -1", () -> x.value(1, 0, -1), DIVISION);
        Due.isThrown("below 0, above 10^18", () -> x.value(FAR, 0, NUMBER), DIVISION);
        Due.isThrown("below 0, above -10^18", () -> x.value(-FAR, 0, NUMBER), DIVISION);
        Due.is("full, unit 5", x.value(1, 1, 5), -3);
        Due.is("full, above 10^18", x.value(FAR, 1, NUMBER), -3);
        Due.is("full, below -10^18", x.value(1, -FAR, NUMBER), -3);
        Due.is("full", x.value(1, 1, NUMBER), -2);
    }

    private static void firstToldOfAdd() {
        firstTold();
        LitreFractions x = Sample.filled(500, 1);
        Due.is("full, no such a", x.add(500, 0), -3);
        Due.is("full, no such b", x.add(0, -1), -3);
        Due.is("full, other units", x.add(0, 1), -1);
        Due.is("full", x.add(0, 0), -2);
    }

    private static void firstToldOfTimes() {
        firstTold();
        LitreFractions x = Sample.filled(500, 1);
        Due.is("full, no such a", x.times(-1, 0), -3);
        Due.is("full, no such b", x.times(0, 500), -3);
        Due.is("full, other units", x.times(0, 1), -1);
        Due.is("full", x.times(0, 4), -2);
    }

    private static void firstToldOfOver() {
        firstTold();
        LitreFractions x = Sample.filled(500, 1);
        Due.is("full, no such a, by 0", x.over(500, 2), -3);
        Due.is("full, no such b", x.over(2, 500), -3);
        Due.is("full, other units, by 0", x.over(1, 2), -1);
        Due.is("full, other units", x.over(1, 0), -1);
        Due.isThrown("full, by 0", () -> x.over(0, 2), DIVISION);
        Due.isThrown("full, 0 by 0", () -> x.over(2, 2), DIVISION);
        Due.is("full", x.over(2, 0), -2);
    }

    private static void firstToldOfRound() {
        firstTold();
        LitreFractions x = Sample.filled(500, 1);
        Due.is("full, no such amount", x.round(500, 0, 1), -3);
        Due.is("no such amount or rule", x.round(-1, 7, 1), -3);
        Due.is("no such amount or unit", x.round(500, 0, 0), -3);
        Due.is("full, no such rule", x.round(0, 7, 1), -1);
        Due.is("full, no such unit", x.round(0, 0, 0), -1);
        Due.is("full", x.round(0, 0, 1), -2);
    }

    private static void firstToldOfJoin() {
        firstTold();
        LitreFractions x = Sample.filled(500, 1);
        Due.is("full, no such amount", x.join(0, 500), -3);
        Due.is("no such amount, no rows", x.join(1, -1), -3);
        Due.is("full, no such table", x.join(4, 0), -3);
        Due.is("full, no rows", x.join(1, 0), -1);
        Due.is("full", x.join(0, 0), -2);
    }

    private static void firstToldOfShare() {
        firstTold();
        LitreFractions x = Sample.filled(500, 1);
        Due.is("full, no such amount", x.share(500, 0), -3);
        Due.is("full, no such weight", x.share(0, 1), -3);
        Due.is("no such weight, below 0", x.share(3, 1), -3);
        Due.is("full, below 0", x.share(3, 0), -1);
        Due.is("full", x.share(0, 0), -2);
        LitreFractions y = Sample.filled(500, 0);
        Due.is("no such amount, all weights are 0", y.share(500, 0), -3);
        Due.is("no such weight, all weights are 0", y.share(0, 1), -3);
        Due.is("full, all weights are 0", y.share(0, 0), -1);
    }

    private static void firstToldOfDigit() {
        firstTold();
        LitreFractions x = Sample.filled(4, 1);
        Due.is("no such amount, i below 0", x.digit(4, 0, -1), -3);
        Due.is("no such amount, not so many before", x.digit(-1, 0, 10), -3);
        Due.is("no such amount, not so many behind", x.digit(4, 1, 30), -3);
    }

    private static void firstToldIsNotTooLarge() {
        firstTold();
        LitreFractions x = new LitreFractions();
        int litres = x.value(LARGEST, 1, LITRES);
        int kilograms = x.value(-LARGEST, 1, KILOGRAMS);
        int fine = x.value(1, LARGEST, KILOGRAMS);
        int half = x.value(1431655765, 2, LITRES);
        Due.is("value: unit 5, too large", x.value(LARGEST + 1, 1, 5), -3);
        Due.is("value: above 10^18, too large", x.value(FAR, 1, NUMBER), -3);
        Due.is("value: 10^18 in lowest terms is 1", x.value(FAR, FAR, NUMBER), -3);
        Due.is("add: too large", x.add(litres, half), -2);
        Due.is("add: other units, too large", x.add(litres, kilograms), -1);
        Due.is("times: other units, too large", x.times(litres, litres), -1);
        Due.is("over: other units, too large", x.over(litres, fine), -1);
        Due.is("round: no such rule, too large", x.round(half, 7, 3), -1);
        Due.is("round: too large", x.round(half, 1, 3), -2);
    }
}
