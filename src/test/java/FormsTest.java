import java.math.BigInteger;

/** Terms: what the echelon, the Hermite and the Smith form are, each sentence by itself, for small matrices. */
public final class FormsTest {
    /** Cells from the first of these on, as many as there are, in shapes of at most six cells. */
    private static final int[][] SHAPES = {{1, 1, -4, 9}, {1, 2, -3, 7}, {2, 1, -3, 7}, {2, 2, -2, 5}, {1, 3, -2, 5},
        {3, 1, -2, 5}, {2, 3, -1, 3}, {3, 2, -1, 3}};
    private static final int AT_ONCE = 8;

    private final Check check = new Check();
    private Counted forms = new Counted();
    private int made;

    public static void main(String[] args) {
        FormsTest test = new FormsTest();
        for (int[] shape : SHAPES) {
            int cells = shape[0] * shape[1];
            int count = BigInteger.valueOf(shape[3]).pow(cells).intValueExact();
            for (int number = 0; number < count; number++) {
                BigInteger[][] m = new BigInteger[shape[0]][shape[1]];
                int rest = number;
                for (int i = 0; i < cells; i++) {
                    m[i / shape[1]][i % shape[1]] = BigInteger.valueOf(shape[2] + rest % shape[3]);
                    rest /= shape[3];
                }
                test.echelon(m);
                test.hermite(m);
                test.smith(m);
            }
        }
        test.edgesOfHermite();
        test.edgesOfSmith();
        test.ranks();
        test.check.end("FormsTest");
    }

    private String put(BigInteger[][] m) {
        made++;
        if (made % AT_ONCE == 0) {
            // What other matrices left behind must not show.
            forms = Check.usedBefore();
        }
        Ratio[][] all = Model.fractions(m);
        Check.put(forms, 0, all);
        return Check.text(all);
    }

    private void echelon(BigInteger[][] m) {
        String name = put(m);
        int rank = forms.echelon(1, 0);
        Ratio[][] e = Check.read(forms, 1);
        zerosAreBehind(name, e, rank);
        pivotsOfEchelon(name, e, rank);
        spans(name, Model.fractions(m), e, rank);
    }

    /**
     * Terms: "ECHELON FORM: rows of 0 are behind all others;"
     * Terms: "The RANK is how many are not 0."
     * Terms: "HERMITE FORM of a matrix of whole numbers: the rows not 0 are in front;"
     */
    private void zerosAreBehind(String name, Ratio[][] e, int rank) {
        for (int i = 0; i < e.length; i++) {
            check.due(name + ", row " + i + " is not 0", first(e[i]) < e[i].length, i < rank);
        }
    }

    /**
     * Terms: "the first cell of another row that is not 0 is 1, its column has 0 elsewhere, and is behind
     * those of the rows above (these are PIVOTS' columns);"
     */
    private void pivotsOfEchelon(String name, Ratio[][] e, int rank) {
        for (int i = 0; i < rank; i++) {
            int c = first(e[i]);
            check.holds(name + ", behind the row above", i == 0 || c > first(e[i - 1]));
            for (int k = 0; k < e.length; k++) {
                check.due(name + ", pivot's column", e[k][c].toString(), k == i ? "1" : "0");
            }
        }
    }

    /** Terms: "the rows span what the matrix's rows span." */
    private void spans(String name, Ratio[][] m, Ratio[][] e, int rank) {
        check.due(name + ", rank", Model.reduce(Model.copy(m), m[0].length), rank);
        for (Ratio[] row : m) {
            Ratio[] rest = row.clone();
            for (int i = 0; i < rank; i++) {
                Ratio factor = row[first(e[i])];
                for (int j = 0; j < rest.length; j++) {
                    rest[j] = rest[j].minus(factor.times(e[i][j]));
                }
            }
            check.due(name + ", nothing is left of a row", first(rest), rest.length);
        }
    }

    private void hermite(BigInteger[][] m) {
        String name = put(m);
        int rank = forms.hermite(1, 0);
        Ratio[][] h = Check.read(forms, 1);
        zerosAreBehind(name, h, rank);
        pivotsOfHermite(name, h, rank);
        cellsAbove(name, h, rank);
        madeOfEachOther(name, m, h, rank);
    }

    /** Terms: "the first cell of each that is not 0 is above 0, and behind that of the row above;" */
    private void pivotsOfHermite(String name, Ratio[][] h, int rank) {
        for (int i = 0; i < rank; i++) {
            int c = first(h[i]);
            check.holds(name + ", above 0", h[i][c].upper.signum() > 0);
            check.holds(name + ", behind the row above", i == 0 || c > first(h[i - 1]));
        }
    }

    /** Terms: "cells above that are from 0 to less than it;" */
    private void cellsAbove(String name, Ratio[][] h, int rank) {
        for (int i = 0; i < rank; i++) {
            int c = first(h[i]);
            for (int k = 0; k < i; k++) {
                check.holds(name + ", from 0", h[k][c].upper.signum() >= 0);
                check.holds(name + ", to less", h[k][c].upper.compareTo(h[i][c].upper) < 0);
            }
        }
    }

    /**
     * Terms: "the rows are, with whole factors, made of the matrix's, and those of these." The one way the
     * factors are found from the pivots; the other way is then told by the determinants of the rank.
     */
    private void madeOfEachOther(String name, BigInteger[][] m, Ratio[][] h, int rank) {
        BigInteger[][] whole = new BigInteger[h.length][h[0].length];
        for (int i = 0; i < h.length; i++) {
            for (int j = 0; j < h[0].length; j++) {
                whole[i][j] = h[i][j].upper;
                check.due(name + ", whole", h[i][j].lower, BigInteger.ONE);
            }
        }
        for (BigInteger[] row : m) {
            BigInteger[] rest = row.clone();
            for (int i = 0; i < rank; i++) {
                int c = first(h[i]);
                BigInteger factor = rest[c].divide(whole[i][c]);
                for (int j = 0; j < rest.length; j++) {
                    rest[j] = rest[j].subtract(factor.multiply(whole[i][j]));
                }
            }
            for (BigInteger cell : rest) {
                check.due(name + ", nothing is left of a row", cell, BigInteger.ZERO);
            }
        }
        if (rank > 0) {
            check.due(name + ", determinants", Wholes.divisorOfMinors(whole, rank), Wholes.divisorOfMinors(m, rank));
        }
    }

    private void smith(BigInteger[][] m) {
        String name = put(m);
        int rank = forms.smith(1, 0);
        Ratio[][] s = Check.read(forms, 1);
        diagonal(name, s, rank);
        determinants(name, m, s);
    }

    /**
     * Terms: "SMITH FORM of a matrix of whole numbers: 0 but for the diagonal;"
     * Terms: "there numbers from 0 on, of which each divides the next one (0 is divided by all),"
     */
    private void diagonal(String name, Ratio[][] s, int rank) {
        for (int i = 0; i < s.length; i++) {
            for (int j = 0; j < s[0].length; j++) {
                check.due(name + ", whole", s[i][j].lower, BigInteger.ONE);
                check.due(name + ", not 0", !s[i][j].isZero(), i == j && i < rank);
                check.holds(name + ", from 0 on", s[i][j].upper.signum() >= 0);
            }
        }
        for (int k = 1; k < rank; k++) {
            check.due(name + ", divides", s[k][k].upper.mod(s[k - 1][k - 1].upper), BigInteger.ZERO);
        }
    }

    /**
     * Terms: "so that, for each k, the product of the first k is the greatest common divisor of all
     * determinants of k rows and k columns."
     */
    private void determinants(String name, BigInteger[][] m, Ratio[][] s) {
        BigInteger product = BigInteger.ONE;
        for (int k = 1; k <= Math.min(m.length, m[0].length); k++) {
            product = product.multiply(s[k - 1][k - 1].upper);
            check.due(name + ", product of " + k, product, Wholes.divisorOfMinors(m, k));
        }
    }

    /** Terms: "cells above that are from 0 to less than it;" Here, at both ends. */
    private void edgesOfHermite() {
        String[][] pairs = {{"1 0; 0 3", "1 0; 0 3"}, {"1 2; 0 3", "1 2; 0 3"}, {"1 3; 0 3", "1 0; 0 3"},
            {"1 4; 0 3", "1 1; 0 3"}, {"1 -1; 0 3", "1 2; 0 3"}, {"1 -3; 0 3", "1 0; 0 3"}, {"1 -4; 0 3", "1 2; 0 3"},
            {"1 5; 0 1", "1 0; 0 1"}, {"1 5; 0 -1", "1 0; 0 1"}, {"-1 2; 0 -3", "1 1; 0 3"},
            {"1 7 9; 0 5 0; 0 0 4", "1 2 1; 0 5 0; 0 0 4"}, {"1 0 4; 0 1 -4; 0 0 4", "1 0 0; 0 1 0; 0 0 4"},
            {"2 0 -1; 0 2 8; 0 0 8", "2 0 7; 0 2 0; 0 0 8"}, {"1 3 1; 0 3 0", "1 0 1; 0 3 0"},
            {"0 2 -9 1; 0 0 9 5", "0 2 0 6; 0 0 9 5"}};
        for (String[] pair : pairs) {
            Counted here = new Counted();
            Check.put(here, 0, pair[0]);
            here.hermite(1, 0);
            check.register("Hermite form of " + pair[0], here, 1, pair[1]);
        }
    }

    /** Terms: "there numbers from 0 on, of which each divides the next one (0 is divided by all)," At its ends. */
    private void edgesOfSmith() {
        String[][] pairs = {{"0 0; 0 5", "5 0; 0 0"}, {"0 0; 0 0", "0 0; 0 0"}, {"0 0; 0 -1", "1 0; 0 0"},
            {"3 0; 0 3", "3 0; 0 3"}, {"3 0; 0 6", "3 0; 0 6"}, {"6 0; 0 3", "3 0; 0 6"}, {"6 0; 0 4", "2 0; 0 12"},
            {"-6 0; 0 -4", "2 0; 0 12"}, {"0 7 0; 0 0 0", "7 0 0; 0 0 0"}, {"1 1; 1 1", "1 0; 0 0"},
            {"2 1; 0 2", "1 0; 0 4"}, {"2 2; 2 2", "2 0; 0 0"}, {"4 0 0; 0 0 0; 0 0 6", "2 0 0; 0 12 0; 0 0 0"}};
        for (String[] pair : pairs) {
            Counted here = new Counted();
            Check.put(here, 0, pair[0]);
            here.smith(1, 0);
            check.register("Smith form of " + pair[0], here, 1, pair[1]);
        }
    }

    /** Terms: "The RANK is how many are not 0." From 0 to all there can be, for the three that answer it. */
    private void ranks() {
        int[][] shapes = {{16, 16}, {16, 3}, {3, 16}, {1, 1}};
        for (int[] shape : shapes) {
            Counted here = new Counted();
            here.make(0, shape[0], shape[1]);
            for (int rank = 0; rank <= Math.min(shape[0], shape[1]); rank++) {
                if (rank > 0) {
                    here.set(0, shape[0] - rank, rank - 1, -rank, 1);
                }
                check.due("echelon", here.echelon(1, 0), rank);
                check.due("hermite", here.hermite(2, 0), rank);
                check.due("smith", here.smith(3, 0), rank);
            }
        }
    }

    private static int first(Ratio[] row) {
        int c = 0;
        while (c < row.length && row[c].isZero()) {
            c++;
        }
        return c;
    }
}
