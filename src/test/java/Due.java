/** Compares answers with those that are due, prints each that is not, and ends the test with exit code 1 if there was one. */
final class Due {
    /** One call, so that what it throws can be an answer too. */
    interface Call {
        long answer();
    }

    private static String sentence = "";
    private static int wrong = 0;
    private static int asked = 0;

    private Due() {
    }

    /** The document's words that the next answers hold or break; they are printed with each wrong one. */
    static void sentence(String words) {
        sentence = "\"" + words + "\": ";
    }

    static void is(String call, long got, long want) {
        same(call, Long.toString(got), Long.toString(want));
    }

    static void is(String call, boolean got, boolean want) {
        same(call, Boolean.toString(got), Boolean.toString(want));
    }

    /** Only the very class counts: a machine's exception may be a class below the one that is due. */
    static void isThrown(String call, Call made, Class<? extends RuntimeException> want) {
        same(call, answerOf(made), "throws." + want.getSimpleName());
    }

    /** A call that is refused with this answer, and changes nothing. */
    static void isRefused(LitreFractions x, String call, Call made, long want) {
        String before = countsOf(x);
        same(call, answerOf(made), Long.toString(want));
        same("counts behind " + call, countsOf(x), before);
    }

    /** A call that is refused with this exception, and changes nothing. */
    static void isRefused(LitreFractions x, String call, Call made, Class<? extends RuntimeException> want) {
        String before = countsOf(x);
        isThrown(call, made, want);
        same("counts behind " + call, countsOf(x), before);
    }

    /** Six calls of the 512. */
    static String countsOf(LitreFractions x) {
        String counts = x.told(0, 3) + " amounts, " + x.told(0, 4) + " weights, rows";
        for (int table = 0; table < 4; table++) {
            counts += " " + x.told(table, 5);
        }
        return counts;
    }

    static String answerOf(Call made) {
        try {
            return Long.toString(made.answer());
        } catch (RuntimeException e) {
            return "throws." + e.getClass().getSimpleName();
        }
    }

    static void same(String call, String got, String want) {
        asked++;
        if (!got.equals(want)) {
            wrong++;
            System.out.println(sentence + call + " answered " + got + ", due is " + want);
        }
    }

    /** The amount with this number, as above / below and its unit. */
    static void amount(LitreFractions x, long number, long above, long below, int unit) {
        String got = x.told((int) number, 0) + "/" + x.told((int) number, 1) + " unit " + x.told((int) number, 2);
        same("amount " + number, number < 0 ? "none" : got, above + "/" + below + " unit " + unit);
    }

    static void end() {
        System.out.println(asked + " answers, " + wrong + " not as due");
        if (wrong != 0 || asked == 0) {
            System.exit(1);
        }
    }
}
