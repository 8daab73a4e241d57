import java.math.BigInteger;

/** Terms: the cells, which are fractions, and LENGTH. */
public final class CellsTest {
    public static void main(String[] args) {
        Check check = new Check();
        leastTerms(check);
        leastTermsOfResults(check);
        aboveZero(check);
        lengths(check);
        check.end("CellsTest");
    }

    /** Terms: "Each CELL is a FRACTION: a whole number over one above 0, in least terms." As it is set. */
    private static void leastTerms(Check check) {
        long[][] cells = {{6, 4, 3, 2}, {6, 3, 2, 1}, {3, 6, 1, 2}, {-6, 4, 3, 2}, {0, 9, 0, 1}, {0, 1, 0, 1},
            {7, 7, 1, 1}, {1L << 62, 1L << 61, 2, 1}, {1L << 61, 1L << 62, 1, 2}, {1L << 33, 1L << 32, 2, 1},
            {Long.MAX_VALUE, Long.MAX_VALUE, 1, 1}, {3037000499L * 3037000493L, 3037000499L, 3037000493L, 1}};
        for (long[] c : cells) {
            Counted forms = new Counted();
            forms.set(0, 0, 0, c[0], c[1]);
            check.due("upper of " + c[0] + " / " + c[1], upper(forms, false), c[2]);
            check.due("lower of " + c[0] + " / " + c[1], upper(forms, true), c[3]);
        }
    }

    private static long upper(Counted forms, boolean lower) {
        return forms.limb(0, 0, 0, lower, 0) & 0xFFFFFFFFL | (long) forms.limb(0, 0, 0, lower, 1) << 32;
    }

    /** Terms: "Each CELL is a FRACTION: a whole number over one above 0, in least terms." As it comes out. */
    private static void leastTermsOfResults(Check check) {
        Counted forms = new Counted();
        Check.put(forms, 0, "1/6 1/10");
        Check.put(forms, 1, "1/3 1/15");
        forms.add(2, 0, 1, false);
        parts(check, "add", forms, 2, new long[] {1, 2, 1, 6});
        Check.put(forms, 1, "2 0; 0 5");
        forms.multiply(2, 0, 1);
        parts(check, "multiply", forms, 2, new long[] {1, 3, 1, 2});
        forms.beside(2, 0, 0);
        parts(check, "beside", forms, 2, new long[] {1, 6, 1, 10, 1, 6, 1, 10});
        Check.put(forms, 0, "6 4");
        forms.echelon(2, 0);
        parts(check, "echelon", forms, 2, new long[] {1, 1, 2, 3});
        forms.kernel(2, 0);
        parts(check, "kernel", forms, 2, new long[] {1, 1, 3, 2});
        Check.put(forms, 0, "6");
        Check.put(forms, 1, "4 -9");
        forms.solve(2, 0, 1);
        parts(check, "solve", forms, 2, new long[] {2, 3, 3, 2});
        Check.put(forms, 0, "6/4");
        forms.invert(2, 0);
        parts(check, "invert", forms, 2, new long[] {2, 3});
        Check.put(forms, 0, "1/2 1/3; 1/4 1/2");
        forms.determinant(2, 0);
        parts(check, "determinant", forms, 2, new long[] {1, 6});
    }

    private static void parts(Check check, String what, Counted forms, int r, long[] want) {
        for (int j = 0; j < want.length / 2; j++) {
            check.due(what + ", upper " + j, (long) forms.limb(r, 0, j, false, 0), want[2 * j]);
            check.due(what + ", lower " + j, (long) forms.limb(r, 0, j, true, 0), want[2 * j + 1]);
        }
    }

    /** Terms: "Each CELL is a FRACTION: a whole number over one above 0, in least terms." The sign is above. */
    private static void aboveZero(Check check) {
        Counted forms = new Counted();
        Check.put(forms, 0, "-2 1; 1 -3/4");
        check.holds("invert", forms.invert(1, 0));
        check.register("invert", forms, 1, "-3/2 -2; -2 -4");
        check.due("echelon with pivots below 0", forms.echelon(2, 0), 2);
        check.register("echelon with pivots below 0", forms, 2, "1 0; 0 1");
        Check.put(forms, 3, "-2 3");
        check.due("one row", forms.echelon(4, 3), 1);
        check.register("one row", forms, 4, "1 -3/2");
        check.due("kernel", forms.kernel(4, 3), 1);
        check.register("kernel", forms, 4, "1 2/3");
        forms.set(5, 0, 0, 3, -7);
        forms.determinant(5, 5);
        check.register("determinant", forms, 5, "-3/7");
        Check.put(forms, 6, "-1/3");
        check.holds("solve", forms.solve(6, 6, 6));
        check.register("solve", forms, 6, "1");
    }

    /** Terms: "The LENGTH of a whole number is how many bits its size has (0 of 0)." */
    private static void lengths(Check check) {
        Counted forms = new Counted();
        check.due("of 0", forms.length(0, 0, 0, false), 0);
        check.due("of 1", forms.length(0, 0, 0, true), 1);
        for (int e = 0; e < 63; e++) {
            forms.set(0, 0, 0, 1L << e, 1);
            check.due("of 2^" + e, forms.length(0, 0, 0, false), e + 1);
            forms.set(0, 0, 0, -(1L << e), 1);
            check.due("of -2^" + e, forms.length(0, 0, 0, false), e + 1);
            forms.set(0, 0, 0, (1L << e) - 1, 1);
            check.due("of 2^" + e + " - 1", forms.length(0, 0, 0, false), e);
            forms.set(0, 0, 0, 1, 1L << e);
            check.due("of 2^" + e + " below", forms.length(0, 0, 0, true), e + 1);
        }
        forms.set(0, 0, 0, Long.MIN_VALUE, 1);
        check.due("of -2^63", forms.length(0, 0, 0, false), 64);
        longest(check);
    }

    private static void longest(Check check) {
        Counted forms = new Counted();
        Check.power(forms, 0, 2, 1, 3999);
        forms.unit(1, 1);
        forms.add(2, 0, 1, true);
        check.due("of 2^3999", forms.length(0, 0, 0, false), 4000);
        check.due("of 2^3999 - 1", forms.length(2, 0, 0, false), 3999);
        forms.add(2, 2, 0, false);
        check.due("of 2^4000 - 1", forms.length(2, 0, 0, false), 4000);
        check.due("all its bits", Check.cell(forms, 2, 0, 0).upper, BigInteger.TWO.pow(4000).subtract(BigInteger.ONE));
        forms.add(2, 3, 2, true);
        check.due("of 1 - 2^4000", forms.length(2, 0, 0, false), 4000);
    }
}
