import java.math.BigDecimal;
import java.math.BigInteger;
import java.math.MathContext;
import java.math.RoundingMode;
import java.util.ArrayList;
import java.util.Comparator;
import java.util.List;

/** The document's words in another form, with numbers that have no limit and none of the class's short cuts. */
final class Model {
    /** A fraction in lowest terms with a unit. */
    private record Amount(BigInteger above, BigInteger below, int unit) {
        static Amount of(BigInteger above, BigInteger below, int unit) {
            BigInteger common = above.gcd(below).multiply(BigInteger.valueOf(below.signum()));
            return new Amount(above.divide(common), below.divide(common), unit);
        }

        static Amount of(long above, long below) {
            return of(BigInteger.valueOf(above), BigInteger.valueOf(below), 0);
        }

        Amount plus(Amount o) {
            return of(above.multiply(o.below).add(o.above.multiply(below)), below.multiply(o.below), unit);
        }

        Amount minus(Amount o) {
            return plus(new Amount(o.above.negate(), o.below, o.unit));
        }

        Amount by(Amount o) {
            return of(above.multiply(o.above), below.multiply(o.below), unit);
        }

        Amount over(Amount o) {
            return of(above.multiply(o.below), below.multiply(o.above), unit);
        }

        Amount in(int other) {
            return new Amount(above, below, other);
        }

        int compare(Amount o) {
            return minus(o).above.signum();
        }
    }

    private record Row(Amount x, Amount y, long below) {
    }

    private static final BigInteger LARGEST = BigInteger.valueOf(Integer.MAX_VALUE);
    private static final BigInteger FAR = BigInteger.TEN.pow(18);
    private static final String UNITS = "nlkea";

    private final List<Amount> amounts = new ArrayList<>();
    private final List<Long> weights = new ArrayList<>();
    private final List<List<Row>> tables = List.of(new ArrayList<>(), new ArrayList<>(), new ArrayList<>(), new ArrayList<>());

    private boolean has(int a) {
        return a >= 0 && a < amounts.size();
    }

    private long keep(Amount made) {
        boolean larger = made.above.abs().compareTo(LARGEST) > 0 || made.below.compareTo(LARGEST) > 0;
        if (larger || amounts.size() == 500) {
            return -2;
        }
        amounts.add(made);
        return amounts.size() - 1;
    }

    private static boolean isFar(long part) {
        return BigInteger.valueOf(part).abs().compareTo(FAR) >= 0;
    }

    long value(long above, long below, int unit) {
        if (below == 0) {
            throw new ArithmeticException();
        }
        if (unit < 0 || unit > 4 || isFar(above) || isFar(below)) {
            return -3;
        }
        return keep(Amount.of(above, below).in(unit));
    }

    long add(int a, int b) {
        if (!has(a) || !has(b)) {
            return -3;
        }
        boolean fit = amounts.get(a).unit == amounts.get(b).unit;
        return fit ? keep(amounts.get(a).plus(amounts.get(b))) : -1;
    }

    private String pair(int a, int b) {
        return "" + UNITS.charAt(amounts.get(a).unit) + UNITS.charAt(amounts.get(b).unit);
    }

    long times(int a, int b) {
        if (!has(a) || !has(b)) {
            return -3;
        }
        Amount product = amounts.get(a).by(amounts.get(b));
        return switch (pair(a, b)) {
            case "nn" -> keep(product.in(0));
            case "nl", "ln", "la", "al" -> keep(product.in(1));
            case "nk", "kn", "ke", "ek" -> keep(product.in(2));
            case "ne", "en" -> keep(product.in(3));
            case "na", "an" -> keep(product.in(4));
            default -> -1;
        };
    }

    long over(int a, int b) {
        if (!has(a) || !has(b)) {
            return -3;
        }
        int unit = switch (pair(a, b)) {
            case "nn", "ll", "kk", "ee", "aa" -> 0;
            case "ln", "la" -> 1;
            case "kn", "ke" -> 2;
            case "en" -> 3;
            case "an" -> 4;
            default -> -1;
        };
        if (unit < 0) {
            return -1;
        }
        if (amounts.get(b).above.signum() == 0) {
            throw new ArithmeticException();
        }
        return keep(amounts.get(a).over(amounts.get(b)).in(unit));
    }

    private static final RoundingMode[] RULES = {
        RoundingMode.FLOOR, RoundingMode.CEILING, RoundingMode.DOWN, RoundingMode.UP,
        null, RoundingMode.HALF_UP, RoundingMode.HALF_EVEN,
    };

    private static BigInteger rounded(Amount a, int rule) {
        if (rule == 4) {
            return rounded(a.plus(Amount.of(1, 2)), 0);
        }
        return new BigDecimal(a.above).divide(new BigDecimal(a.below), 0, RULES[rule]).toBigIntegerExact();
    }

    long round(int a, int rule, long unit) {
        if (!has(a)) {
            return -3;
        }
        if (rule < 0 || rule > 6 || unit < 1 || unit > 1000000000L) {
            return -1;
        }
        Amount from = amounts.get(a);
        BigInteger multiple = rounded(from.by(Amount.of(unit, 1)), rule);
        return keep(Amount.of(multiple, BigInteger.valueOf(unit), from.unit));
    }

    long order(int a, int b) {
        if (!has(a) || !has(b)) {
            return -3;
        }
        boolean fit = amounts.get(a).unit == amounts.get(b).unit;
        return fit ? amounts.get(a).compare(amounts.get(b)) : 2;
    }

    long row(int table, long x, long y, long below) {
        if (table < 0 || table > 3 || below < 1 || below > 100) {
            return 0;
        }
        List<Row> rows = tables.get(table);
        if (rows.size() == 16 || x < -10000 || x > 10000 || y < -10000 || y > 10000) {
            return 0;
        }
        Row made = new Row(Amount.of(x, below), Amount.of(y, below), below);
        if (!rows.isEmpty() && rows.get(0).below != below) {
            return 0;
        }
        if (!rows.isEmpty() && made.x.compare(rows.get(rows.size() - 1).x) <= 0) {
            return 0;
        }
        rows.add(made);
        return 1;
    }

    long join(int table, int a) {
        if (!has(a) || table < 0 || table > 3) {
            return -3;
        }
        List<Row> rows = tables.get(table);
        if (rows.isEmpty()) {
            return -1;
        }
        Amount at = amounts.get(a).in(0);
        Row first = rows.get(0);
        Row last = rows.get(rows.size() - 1);
        if (at.compare(last.x) >= 0) {
            return keep(last.y);
        }
        Amount joined = first.y;
        for (int i = 0; i + 1 < rows.size(); i++) {
            Row from = rows.get(i);
            Row to = rows.get(i + 1);
            if (at.compare(from.x) > 0) {
                Amount slope = to.y.minus(from.y).over(to.x.minus(from.x));
                joined = from.y.plus(slope.by(at.minus(from.x)));
            }
        }
        return keep(joined);
    }

    long weight(long w) {
        if (w < 0 || w > 1000000 || weights.size() == 16) {
            return 0;
        }
        weights.add(w);
        return 1;
    }

    long share(int a, int k) {
        if (!has(a) || k < 0 || k >= weights.size()) {
            return -3;
        }
        BigInteger all = BigInteger.valueOf(weights.stream().mapToLong(w -> w).sum());
        Amount whole = amounts.get(a);
        if (whole.above.signum() < 0 || all.signum() == 0) {
            return -1;
        }
        BigInteger t = rounded(whole.by(Amount.of(1000, 1)), 0);
        BigInteger[] got = new BigInteger[weights.size()];
        BigInteger[] rests = new BigInteger[weights.size()];
        List<Integer> ranked = new ArrayList<>();
        BigInteger left = t;
        for (int i = 0; i < got.length; i++) {
            BigInteger[] parts = t.multiply(BigInteger.valueOf(weights.get(i))).divideAndRemainder(all);
            got[i] = parts[0];
            rests[i] = parts[1];
            left = left.subtract(got[i]);
            ranked.add(i);
        }
        ranked.sort(Comparator.comparing((Integer i) -> rests[i]).reversed().thenComparing(i -> i));
        for (int i = 0; i < left.intValueExact(); i++) {
            got[ranked.get(i)] = got[ranked.get(i)].add(BigInteger.ONE);
        }
        BigInteger thousand = BigInteger.valueOf(1000);
        Amount made = Amount.of(got[k], thousand, whole.unit);
        Amount below = whole.minus(Amount.of(t, thousand, whole.unit));
        return keep(k == 0 ? made.plus(below) : made);
    }

    long digit(int a, int part, int i) {
        if (!has(a)) {
            return -3;
        }
        Amount from = amounts.get(a);
        String digits = part == 0 ? digitsBefore(from) : digitsBehind(from);
        if (i < 0 || i >= digits.length()) {
            throw new IndexOutOfBoundsException();
        }
        return digits.charAt(i) - '0';
    }

    private static String digitsBefore(Amount from) {
        return new StringBuilder(from.above.abs().divide(from.below).toString()).reverse().toString();
    }

    private static String digitsBehind(Amount from) {
        BigDecimal rest = new BigDecimal(from.above.abs().mod(from.below));
        BigDecimal below = new BigDecimal(from.below);
        String text;
        try {
            text = rest.divide(below, new MathContext(0)).toPlainString();
        } catch (ArithmeticException e) {
            text = rest.divide(below, 30, RoundingMode.DOWN).toPlainString();
        }
        return text.indexOf('.') < 0 ? "" : text.substring(2);
    }

    long told(int a, int what) {
        if (what >= 0 && what <= 2 && has(a)) {
            Amount from = amounts.get(a);
            return what == 0 ? from.above.longValueExact() : what == 1 ? from.below.longValueExact() : from.unit;
        }
        if (what == 3) {
            return amounts.size();
        }
        if (what == 4) {
            return weights.size();
        }
        return what == 5 && a >= 0 && a <= 3 ? tables.get(a).size() : -9;
    }

    void clear() {
        amounts.clear();
        weights.clear();
        tables.forEach(List::clear);
    }
}
