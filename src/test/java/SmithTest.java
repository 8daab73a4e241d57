import java.math.BigInteger;

/** Promise 16: smith. */
public final class SmithTest {
    private static final long[] PARTS = {0, 0, 1, 2, 3, 4, 6, 8, 9, 12, 16, 30, 36, 64, 72, 210, 1024, 6561, 2310};

    public static void main(String[] args) {
        Check check = new Check();
        known(check);
        byMinors(check);
        drawn(check);
        hidden(check);
        atTheBound(check);
        registers(check);
        notWhole(check);
        weight(check);
        check.end("SmithTest");
    }

    /** Promise 16: "The Smith form: the rank." */
    private static void known(Check check) {
        known(check, "0", 0, "0");
        known(check, "-5", 1, "5");
        known(check, "0 0 0; 0 0 0", 0, "0 0 0; 0 0 0");
        known(check, "2 4 4; -6 6 12; 10 -4 -16", 3, "2 0 0; 0 6 0; 0 0 12");
        known(check, "2 0; 0 3", 2, "1 0; 0 6");
        known(check, "6 0 0; 0 10 0; 0 0 15", 3, "1 0 0; 0 30 0; 0 0 30");
        known(check, "4 0; 0 6", 2, "2 0; 0 12");
        known(check, "1 2 3; 4 5 6; 7 8 9", 2, "1 0 0; 0 3 0; 0 0 0");
        known(check, "0 0 6; 0 0 0; -9 0 0; 0 0 0", 2, "3 0 0; 0 18 0; 0 0 0; 0 0 0");
        known(check, "12 18 30", 1, "6 0 0");
        known(check, "12; 18; -30", 1, "6; 0; 0");
        known(check, "0 0; 0 7", 1, "7 0; 0 0");
        known(check, "8 4 2; 4 2 8", 2, "2 0 0; 0 14 0");
    }

    private static void known(Check check, String from, int rank, String want) {
        Counted forms = new Counted();
        Check.put(forms, 0, from);
        check.due("rank of " + from, forms.smith(1, 0), rank);
        check.register("Smith form of " + from, forms, 1, want);
        check.register("it stays", forms, 0, from);
        check.due("rank of " + from, forms.smith(0, 0), rank);
        check.register("Smith form to its own", forms, 0, want);
        check.due("again", forms.smith(0, 0), rank);
        check.register("a form is its own form", forms, 0, want);
    }

    private static void byMinors(Check check) {
        Draws draws = new Draws(17);
        for (int round = 0; round < 300; round++) {
            BigInteger[][] m = round % 2 == 0
                ? draws.wholes(draws.upTo(4), draws.upTo(4), draws.upTo(7), round % 8)
                : draws.ofRank(draws.upTo(5), draws.upTo(4), draws.upTo(3), draws.upTo(7));
            Counted forms = new Counted();
            Check.put(forms, 0, Model.fractions(m));
            int rank = forms.smith(1, 0);
            BigInteger product = BigInteger.ONE;
            for (int k = 1; k <= Math.min(m.length, m[0].length); k++) {
                product = product.multiply(Check.cell(forms, 1, k - 1, k - 1).upper);
                check.due("product of " + k, product, Wholes.divisorOfMinors(m, k));
                check.due("rank, " + k, k <= rank, product.signum() > 0);
            }
        }
    }

    private static void drawn(Check check) {
        Draws draws = new Draws(18);
        for (int round = 0; round < 400; round++) {
            int rows = draws.upTo(round % 20 == 0 ? 8 : 5);
            int columns = draws.upTo(round % 20 == 0 ? 8 : 5);
            compare(check, "drawn " + round, round % 2 == 0 ? draws.wholes(rows, columns, draws.upTo(8), round % 8)
                : draws.ofRank(rows, columns, draws.upTo(4), draws.upTo(12)));
        }
    }

    private static void compare(Check check, String what, BigInteger[][] m) {
        Counted forms = new Counted();
        Check.put(forms, 0, Model.fractions(m));
        BigInteger[][] want = Wholes.copy(m);
        check.due(what, forms.smith(1, 0), Wholes.smith(want));
        check.register(what, forms, 1, Model.fractions(want));
        forms.turn(0, 0);
        forms.turn(2, 1);
        forms.smith(3, 0);
        check.holds(what + ", turned", forms.same(2, 3));
    }

    /** Diagonals with many shared factors, hidden by steps on rows and columns that can be taken back. */
    private static void hidden(Check check) {
        Draws draws = new Draws(19);
        for (int round = 0; round < 120; round++) {
            int rows = draws.upTo(round % 4 == 0 ? 16 : 7);
            int columns = draws.upTo(round % 4 == 0 ? 16 : 7);
            BigInteger[][] diagonal = new BigInteger[rows][columns];
            for (int i = 0; i < rows; i++) {
                for (int j = 0; j < columns; j++) {
                    long value = i == j ? PARTS[draws.upTo(PARTS.length) - 1] : 0;
                    diagonal[i][j] = BigInteger.valueOf(value);
                }
            }
            BigInteger[][] m = Wholes.product(Wholes.product(draws.invertible(rows, 3 * rows), diagonal),
                draws.invertible(columns, 3 * columns));
            BigInteger[][] want = Wholes.copy(diagonal);
            int rank = Wholes.smith(want);
            Counted forms = new Counted();
            Check.put(forms, 0, Model.fractions(m));
            check.due("hidden " + round, forms.smith(1, 0), rank);
            check.register("hidden " + round, forms, 1, Model.fractions(want));
        }
    }

    private static void atTheBound(Check check) {
        Draws draws = new Draws(20);
        compare(check, "1 by 16", draws.wholes(1, 16, 2000, 4));
        compare(check, "2 by 2", draws.wholes(2, 2, 999, 0));
        compare(check, "3 by 3", draws.wholes(3, 3, 664, 0));
        compare(check, "5 by 4", draws.wholes(5, 4, 498, 1));
        Counted forms = new Counted();
        Check.put(forms, 0, Model.fractions(draws.wholes(16, 16, 121, 4)));
        check.due("16 by 16", forms.smith(1, 0), 16);
        forms.determinant(2, 0);
        BigInteger product = BigInteger.ONE;
        for (int i = 0; i < 16; i++) {
            product = product.multiply(Check.cell(forms, 1, i, i).upper);
        }
        check.due("16 by 16", product, Check.cell(forms, 2, 0, 0).upper.abs());
    }

    /** Promise 16: "IndexOutOfBoundsException;" */
    private static void registers(Check check) {
        Bounds.registers(check, "smith", 2, (forms, r) -> forms.smith(r[0], r[1]));
        Counted forms = new Counted();
        Check.power(forms, 1, 2, 1, 2000);
        Check.put(forms, 2, "1/2");
        for (int r : new int[] {-1, 8}) {
            check.refused("it is named before WEIGHT", forms, Check.INDEX, () -> forms.smith(r, 1));
            check.refused("it is named before whole cells", forms, Check.INDEX, () -> forms.smith(r, 2));
        }
    }

    /** Promise 16: "IllegalArgumentException: some cell is not whole;" */
    private static void notWhole(Check check) {
        Bounds.wholeCells(check, "smith", (forms, r) -> forms.smith(r[0], r[1]));
    }

    /** Promise 16: "UnsupportedOperationException, WEIGHT." */
    private static void weight(Check check) {
        WeightCheck weight = new WeightCheck(check, "smith", f -> f.smith(2, 0), m -> m.smith(2, 0));
        weight.ofAnyShape();
        Counted forms = new Counted();
        Check.power(forms, 1, 2, 1, 2000);
        check.refused("to its own", forms, Check.UNSUPPORTED, () -> forms.smith(1, 1));
    }
}
