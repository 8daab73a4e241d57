import java.math.BigInteger;

/** Promise 15: hermite. */
public final class HermiteTest {
    public static void main(String[] args) {
        Check check = new Check();
        known(check);
        drawn(check);
        atTheBound(check);
        registers(check);
        notWhole(check);
        weight(check);
        check.end("HermiteTest");
    }

    /** Promise 15: "The Hermite form: the rank." */
    private static void known(Check check) {
        known(check, "0", 0, "0");
        known(check, "-5", 1, "5");
        known(check, "0 0; 0 0", 0, "0 0; 0 0");
        known(check, "4; -6; 0", 1, "2; 0; 0");
        known(check, "0 -3 6 1", 1, "0 3 -6 -1");
        known(check, "2 3; 4 5", 2, "2 0; 0 1");
        known(check, "1 2 3; 4 5 6; 7 8 9", 2, "1 2 3; 0 3 6; 0 0 0");
        known(check, "2 0; 0 3", 2, "2 0; 0 3");
        known(check, "3 -1; 0 5", 2, "3 4; 0 5");
        known(check, "0 2 4; 0 3 5; 0 0 0", 2, "0 1 1; 0 0 2; 0 0 0");
        known(check, "2 3 6 2; 5 6 1 6; 8 3 1 1", 3, "1 0 50 -11; 0 3 28 -2; 0 0 61 -13");
        known(check, "2 4 4; -6 6 12; 10 -4 -16", 3, "2 4 4; 0 6 0; 0 0 12");
        known(check, "6 4; 6 4; 9 6", 1, "3 2; 0 0; 0 0");
        known(check, "1 0 0; 0 0 0; 0 0 -1", 2, "1 0 0; 0 0 1; 0 0 0");
    }

    private static void known(Check check, String from, int rank, String want) {
        Counted forms = new Counted();
        Check.put(forms, 0, from);
        check.due("rank of " + from, forms.hermite(1, 0), rank);
        check.register("Hermite form of " + from, forms, 1, want);
        check.register("it stays", forms, 0, from);
        check.due("rank of " + from, forms.hermite(0, 0), rank);
        check.register("Hermite form to its own", forms, 0, want);
        check.due("again", forms.hermite(0, 0), rank);
        check.register("a form is its own form", forms, 0, want);
    }

    private static void drawn(Check check) {
        Draws draws = new Draws(15);
        for (int round = 0; round < 600; round++) {
            int rows = draws.upTo(round % 20 == 0 ? 10 : 5);
            int columns = draws.upTo(round % 20 == 0 ? 10 : 5);
            compare(check, "drawn " + round, round % 2 == 0 ? draws.wholes(rows, columns, draws.upTo(8), round % 8)
                : draws.ofRank(rows, columns, draws.upTo(4), draws.upTo(12)));
        }
    }

    private static void compare(Check check, String what, BigInteger[][] m) {
        Counted forms = new Counted();
        Check.put(forms, 0, Model.fractions(m));
        BigInteger[][] want = Wholes.copy(m);
        int rank = Wholes.hermite(want);
        check.due(what, forms.hermite(1, 0), rank);
        check.register(what, forms, 1, Model.fractions(want));
    }

    /** Rows mixed by steps that can be taken back leave the form as it is. */
    private static void atTheBound(Check check) {
        Draws draws = new Draws(16);
        compare(check, "8 by 8", draws.wholes(8, 8, 247, 0));
        compare(check, "3 by 16", draws.wholes(3, 16, 664, 4));
        compare(check, "16 by 3", draws.wholes(16, 3, 664, 4));
        compare(check, "1 by 16", draws.wholes(1, 16, 2000, 4));
        compare(check, "16 by 1", draws.wholes(16, 1, 2000, 6));
        compare(check, "16 by 16 of one bit", draws.wholes(16, 16, 1, 3));
        for (int round = 0; round < 10; round++) {
            BigInteger[][] m = draws.wholes(12, 12, 60, 3);
            for (int i = 0; i < 12; i++) {
                for (int j = 0; j < i; j++) {
                    m[i][j] = BigInteger.ZERO;
                }
                m[i][i] = m[i][i].abs().add(BigInteger.ONE);
            }
            compareMixed(check, "mixed " + round, m, draws.invertible(12, 60));
        }
        Counted forms = new Counted();
        Check.put(forms, 0, Model.fractions(draws.wholes(16, 16, 121, 4)));
        check.due("16 by 16 at the bound", forms.hermite(1, 0), 16);
        checkIsForm(check, forms);
    }

    private static void compareMixed(Check check, String what, BigInteger[][] form, BigInteger[][] factors) {
        Counted forms = new Counted();
        Check.put(forms, 0, Model.fractions(Wholes.product(factors, form)));
        BigInteger[][] want = Wholes.copy(form);
        check.due(what, forms.hermite(1, 0), Wholes.hermite(want));
        check.register(what, forms, 1, Model.fractions(want));
    }

    /** Each is made of the other with whole factors: a over the form has whole cells, of determinant 1. */
    private static void checkIsForm(Check check, Counted forms) {
        Ratio[][] h = Check.read(forms, 1);
        forms.determinant(2, 0);
        BigInteger product = BigInteger.ONE;
        for (int i = 0; i < 16; i++) {
            product = product.multiply(h[i][i].upper);
            for (int j = 0; j < 16; j++) {
                boolean well = j < i ? h[i][j].isZero()
                    : h[i][j].upper.signum() >= 0 && (i == j || h[i][j].upper.compareTo(h[j][j].upper) < 0);
                check.holds("cell " + i + ", " + j, well);
            }
        }
        check.due("determinants", product, Check.cell(forms, 2, 0, 0).upper.abs());
        Ratio[][] factors = overTriangle(Check.read(forms, 0), h);
        check.due("rows of a are made of the form's", Model.commonOf(factors), BigInteger.ONE);
    }

    /** The factors f with f h = a, for a square triangle h. */
    private static Ratio[][] overTriangle(Ratio[][] a, Ratio[][] h) {
        int n = a.length;
        Ratio[][] f = Model.zero(n, n);
        for (int i = 0; i < n; i++) {
            for (int j = 0; j < n; j++) {
                Ratio rest = a[i][j];
                for (int k = 0; k < j; k++) {
                    rest = rest.minus(f[i][k].times(h[k][j]));
                }
                f[i][j] = rest.over(h[j][j]);
            }
        }
        return f;
    }

    /** Promise 15: "IndexOutOfBoundsException;" */
    private static void registers(Check check) {
        Bounds.registers(check, "hermite", 2, (forms, r) -> forms.hermite(r[0], r[1]));
        Counted forms = new Counted();
        Check.power(forms, 1, 2, 1, 2000);
        Check.put(forms, 2, "1/2");
        for (int r : new int[] {-1, 8}) {
            check.refused("it is named before WEIGHT", forms, Check.INDEX, () -> forms.hermite(r, 1));
            check.refused("it is named before whole cells", forms, Check.INDEX, () -> forms.hermite(r, 2));
        }
    }

    /** Promise 15: "IllegalArgumentException: some cell is not whole;" */
    private static void notWhole(Check check) {
        Bounds.wholeCells(check, "hermite", (forms, r) -> forms.hermite(r[0], r[1]));
    }

    /** Promise 15: "UnsupportedOperationException, WEIGHT." */
    private static void weight(Check check) {
        WeightCheck weight = new WeightCheck(check, "hermite", f -> f.hermite(2, 0), m -> m.hermite(2, 0));
        weight.ofAnyShape();
        Counted forms = new Counted();
        Check.power(forms, 1, 2, 1, 2000);
        check.refused("to its own", forms, Check.UNSUPPORTED, () -> forms.hermite(1, 1));
    }
}
