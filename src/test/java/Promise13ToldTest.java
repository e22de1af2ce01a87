/** Promise 13: told. */
public final class Promise13ToldTest {
    private static final int[] ANY = {-1, 0, 1, 4, 499, 500, Integer.MIN_VALUE, Integer.MAX_VALUE};

    public static void main(String[] args) {
        ofAnAmount();
        noSuchAmount();
        howMany();
        weights();
        rowsOfATable();
        noSuchTable();
        anotherWhat();
        Due.end();
    }

    private static void ofAnAmount() {
        Due.sentence("Of an amount its above (what = 0), below (1), unit (2)");
        LitreFractions x = new LitreFractions();
        x.value(-7, 3, 4);
        x.value(0, 9, 0);
        long[][] due = {{-7, 3, 4}, {0, 1, 0}};
        for (int a = 0; a < 2; a++) {
            for (int what = 0; what < 3; what++) {
                Due.is("told(" + a + ", " + what + ")", x.told(a, what), due[a][what]);
            }
        }
    }

    private static void noSuchAmount() {
        Due.sentence("-9 when there is none");
        LitreFractions x = new LitreFractions();
        for (int what = 0; what < 3; what++) {
            Due.is("none at all, what " + what, x.told(0, what), -9);
        }
        x.value(1, 2, 1);
        x.value(1, 2, 1);
        for (int what = 0; what < 3; what++) {
            for (int a : Sample.noAmounts(2)) {
                Due.is("told(" + a + ", " + what + ")", x.told(a, what), -9);
            }
            Due.is("the first, what " + what, x.told(0, what) > 0, true);
            Due.is("the last, what " + what, x.told(1, what) > 0, true);
        }
    }

    private static void howMany() {
        Due.sentence("of all how many there are (3)");
        LitreFractions x = new LitreFractions();
        for (int many = 0; many < 3; many++) {
            for (int a : ANY) {
                Due.is(many + " amounts, told(" + a + ", 3)", x.told(a, 3), many);
            }
            x.value(many, 1, 0);
        }
        Due.is("of 500", Sample.filled(500, 1).told(0, 3), 500);
    }

    private static void weights() {
        Due.sentence("of all how many there are .. weights (4)");
        LitreFractions x = new LitreFractions();
        for (int many = 0; many <= 16; many++) {
            for (int a : ANY) {
                Due.is(many + " weights, told(" + a + ", 4)", x.told(a, 4), many);
            }
            x.weight(0);
        }
        Due.is("no more than 16", x.told(0, 4), 16);
    }

    private static void rowsOfATable() {
        Due.sentence("rows of table a (5)");
        LitreFractions x = new LitreFractions();
        for (int many = 0; many <= 16; many++) {
            Due.is("rows of 0", x.told(0, 5), many);
            Due.is("rows of 1", x.told(1, 5), 0);
            Due.is("rows of 2", x.told(2, 5), 0);
            Due.is("rows of 3", x.told(3, 5), Math.min(many, 2));
            x.row(0, many, 0, 1);
            if (many < 2) {
                x.row(3, many, 0, 2);
            }
        }
        Due.is("no more than 16", x.told(0, 5), 16);
    }

    private static void noSuchTable() {
        Due.sentence("-9 when there is none");
        LitreFractions x = Sample.filled(6, 1);
        int[] none = {-1, 4, 5, Integer.MIN_VALUE, Integer.MAX_VALUE};
        for (int table : none) {
            Due.is("told(" + table + ", 5)", x.told(table, 5), -9);
        }
        Due.is("told(0, 5)", x.told(0, 5), 1);
        Due.is("told(3, 5)", x.told(3, 5), 0);
    }

    private static void anotherWhat() {
        Due.sentence("-9 .. for another what");
        LitreFractions x = Sample.filled(6, 1);
        int[] others = {-1, 6, 7, Integer.MIN_VALUE, Integer.MAX_VALUE};
        for (int what : others) {
            Due.is("told(0, " + what + ")", x.told(0, what), -9);
            Due.is("told(5, " + what + ")", x.told(5, what), -9);
            Due.is("told(-1, " + what + ")", x.told(-1, what), -9);
        }
    }
}
