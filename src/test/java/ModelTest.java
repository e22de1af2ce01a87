import java.util.Random;

/** All promises: long runs of mixed calls, good and wrong ones, answered by the class and by the model. */
public final class ModelTest {
    private static final int RUNS = 6000;
    /** What an object answers behind these is free. */
    private static final int MOST_CALLS = 512;
    private static final int NEARLY_FULL = 498;
    private static final long[] EDGES = {
        0, 1, -1, 2, -2, 9, 10, 16, 17, 100, 101, 999, 1000, 1001, 9999, 10000, 10001, -10000, -10001,
        999999, 1000000, 1000001, 999999999L, 1000000000L, 1000000001L, 1073741824L, 1220703125L,
        2147483646L, 2147483647L, 2147483648L, -2147483647L, -2147483648L, 4294967295L, 4294967296L,
        999999999999999999L, 1000000000000000000L, -999999999999999999L, -1000000000000000000L,
        Long.MAX_VALUE, Long.MIN_VALUE,
    };

    private final Random random;
    private final LitreFractions x = new LitreFractions();
    private final Model model = new Model();
    private final String run;
    private int calls = 0;

    private ModelTest(int seed) {
        random = new Random(seed);
        run = "run " + seed + ": ";
    }

    public static void main(String[] args) {
        for (int seed = 0; seed < RUNS; seed++) {
            ModelTest test = new ModelTest(seed);
            // Some runs begin with so many amounts that the 501st comes into reach.
            if (seed % 10 == 0) {
                test.fill();
            }
            while (test.calls < MOST_CALLS) {
                test.call();
            }
        }
        Due.end();
    }

    private void fill() {
        x.row(0, 0, 3, 2);
        model.row(0, 0, 3, 2);
        x.weight(1);
        model.weight(1);
        for (int i = 0; i < NEARLY_FULL; i++) {
            int above = random.nextInt(20) - 10;
            int unit = random.nextInt(5);
            Due.is(run + "fill", x.value(above, 3, unit), model.value(above, 3, unit));
        }
        calls = NEARLY_FULL + 2;
    }

    private void call() {
        int kind = random.nextInt(450);
        if (kind < 85) {
            value();
        } else if (kind < 200) {
            pair(kind % 4);
        } else if (kind < 240) {
            round();
        } else if (kind < 275) {
            row();
        } else if (kind < 293) {
            weight();
        } else if (kind < 449) {
            ofAmount(kind % 4);
        } else {
            clear();
        }
    }

    private long edge() {
        return EDGES[random.nextInt(EDGES.length)];
    }

    private long part() {
        return switch (random.nextInt(12)) {
            case 0 -> edge();
            case 1, 2 -> (random.nextLong() >> 33) + edge() % 3;
            case 3 -> random.nextLong() >> random.nextInt(64);
            case 4 -> 1L << random.nextInt(31);
            default -> random.nextInt(200) - 50;
        };
    }

    private int number() {
        int many = (int) model.told(0, 3);
        return random.nextInt(25) == 0 || many == 0 ? (int) edge() : random.nextInt(many + (random.nextInt(20) == 0 ? 1 : 0));
    }

    private int small(int end) {
        return random.nextInt(25) == 0 ? (int) edge() : random.nextInt(end);
    }

    private void due(String call, Due.Call got, Due.Call want) {
        long before = model.told(0, 3);
        Due.same(run + call, Due.answerOf(got), Due.answerOf(want));
        calls++;
        if (model.told(0, 3) == before) {
            return;
        }
        for (int what = 0; what < 3 && calls < MOST_CALLS; what++) {
            Due.is(run + call + " made told " + what, x.told((int) before, what), model.told((int) before, what));
            calls++;
        }
    }

    private void value() {
        long factor = random.nextInt(3) == 0 ? random.nextInt(300000000) + 1 : 1;
        long above = part() * factor;
        long below = part() * factor;
        int unit = random.nextInt(3) == 0 ? 0 : small(5);
        due("value(" + above + ", " + below + ", " + unit + ")", () -> x.value(above, below, unit), () -> model.value(above, below, unit));
    }

    private void pair(int which) {
        int a = number();
        int b = number();
        String of = "(" + a + ", " + b + ")";
        switch (which) {
            case 0 -> due("add" + of, () -> x.add(a, b), () -> model.add(a, b));
            case 1 -> due("times" + of, () -> x.times(a, b), () -> model.times(a, b));
            case 2 -> due("over" + of, () -> x.over(a, b), () -> model.over(a, b));
            default -> due("order" + of, () -> x.order(a, b), () -> model.order(a, b));
        }
    }

    private void round() {
        int a = number();
        int rule = small(7);
        long unit = random.nextInt(10) == 0 ? edge() : random.nextInt(3) == 0 ? random.nextInt(1000000000) + 1 : random.nextInt(12) + 1;
        due("round(" + a + ", " + rule + ", " + unit + ")", () -> x.round(a, rule, unit), () -> model.round(a, rule, unit));
    }

    private void row() {
        int table = small(4);
        long above = random.nextInt(10) == 0 ? edge() : random.nextInt(800) - 200 + 50 * model.told(table, 5);
        long y = random.nextInt(10) == 0 ? edge() : random.nextInt(20001) - 10000;
        long below = random.nextInt(15) == 0 ? edge() : 3 + 7 * table;
        due("row(" + table + ", " + above + ", " + y + ", " + below + ")",
                () -> x.row(table, above, y, below) ? 1 : 0, () -> model.row(table, above, y, below));
    }

    private void weight() {
        long w = random.nextInt(8) == 0 ? edge() : random.nextInt(2) == 0 ? random.nextInt(6) : random.nextInt(1000001);
        due("weight(" + w + ")", () -> x.weight(w) ? 1 : 0, () -> model.weight(w));
    }

    private void ofAmount(int which) {
        int a = number();
        switch (which) {
            case 0 -> {
                int table = small(4);
                due("join(" + table + ", " + a + ")", () -> x.join(table, a), () -> model.join(table, a));
            }
            case 1 -> {
                int k = random.nextInt(3) == 0 ? 0 : small(16);
                due("share(" + a + ", " + k + ")", () -> x.share(a, k), () -> model.share(a, k));
            }
            case 2 -> {
                int part = small(2);
                int i = random.nextInt(3) == 0 ? small(33) : random.nextInt(6);
                due("digit(" + a + ", " + part + ", " + i + ")", () -> x.digit(a, part, i), () -> model.digit(a, part, i));
            }
            default -> {
                int what = small(7);
                int of = random.nextInt(2) == 0 ? a : small(5);
                due("told(" + of + ", " + what + ")", () -> x.told(of, what), () -> model.told(of, what));
            }
        }
    }

    private void clear() {
        x.clear();
        model.clear();
        calls++;
    }
}
