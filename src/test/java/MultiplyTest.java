import java.math.BigInteger;

/** Promise 6: multiply. */
public final class MultiplyTest {
    public static void main(String[] args) {
        Check check = new Check();
        products(check);
        sixteen(check);
        registers(check);
        shapes(check);
        lengthOfUpper(check);
        lengthOfCommon(check);
        lengthOfCells(check);
        onlyTheResultCounts(check);
        longestSums(check);
        limbs(check);
        check.end("MultiplyTest");
    }

    /** Promise 6: "Sums of products: a has as many columns as b rows." */
    private static void products(Check check) {
        Counted forms = new Counted();
        Check.put(forms, 0, "1/2 -3; 0 5/6; 2 1");
        Check.put(forms, 1, "2 0 1/3 -1; 1/5 6 0 1");
        forms.multiply(2, 0, 1);
        check.register("product", forms, 2, "2/5 -18 1/6 -7/2; 1/6 5 0 5/6; 21/5 6 2/3 -1");
        forms.multiply(0, 0, 1);
        check.holds("to the first", forms.same(0, 2));
        Check.put(forms, 0, "1/2 -3; 0 5/6; 2 1");
        forms.multiply(1, 0, 1);
        check.holds("to the second", forms.same(1, 2));
        Check.put(forms, 3, "0 1; 1/2 1");
        forms.multiply(3, 3, 3);
        check.register("of itself to itself", forms, 3, "1/2 1; 1/2 3/2");
        Check.put(forms, 4, "1 2 3");
        Check.put(forms, 5, "4; 5; 6");
        forms.multiply(6, 4, 5);
        check.register("row by column", forms, 6, "32");
        forms.multiply(6, 5, 4);
        check.register("column by row", forms, 6, "4 8 12; 5 10 15; 6 12 18");
        Check.put(forms, 0, "1/3 1/3 1/3");
        Check.put(forms, 1, "1; 1; 1");
        forms.multiply(2, 0, 1);
        check.register("thirds", forms, 2, "1");
        check.due("COMMON is 1", forms.smith(2, 2), 1);
    }

    private static void sixteen(Check check) {
        Counted forms = new Counted();
        Model model = new Model();
        for (int r = 0; r < 2; r++) {
            forms.make(r, 16, 16);
            model.make(r, 16, 16);
            for (int i = 0; i < 256; i += 1 + r) {
                long u = (i * 7919L + 31 * r) * (Long.MAX_VALUE / 4000000) * (i % 3 - 1);
                forms.set(r, i / 16, i % 16, u, 1 + i % 7);
                model.set(r, i / 16, i % 16, u, 1 + i % 7);
            }
        }
        forms.multiply(2, 0, 1);
        model.multiply(2, 0, 1);
        check.register("16 by 16", forms, 2, model.registers[2]);
    }

    /** Promise 6: "IndexOutOfBoundsException;" */
    private static void registers(Check check) {
        Bounds.registers(check, "multiply", 3, (forms, r) -> forms.multiply(r[0], r[1], r[2]));
        Counted forms = new Counted();
        forms.make(1, 2, 1);
        for (int r : new int[] {-1, 8}) {
            check.refused("to is named before shapes", forms, Check.INDEX, () -> forms.multiply(r, 0, 1));
        }
    }

    /** Promise 6: "IllegalArgumentException;" a has not as many columns as b rows. */
    private static void shapes(Check check) {
        Counted forms = new Counted();
        Check.put(forms, 0, "1 2; 3 4");
        Check.put(forms, 1, "1 2 3; 3 4 5");
        Check.put(forms, 2, "1; 2; 3");
        Check.put(forms, 3, "1 2 3 4");
        int[][] wrong = {{1, 0}, {1, 1}, {0, 2}, {2, 0}, {3, 2}, {3, 3}, {2, 2}, {2, 1}, {0, 3}};
        for (int[] w : wrong) {
            check.refused(w[0] + " by " + w[1], forms, Check.ARGUMENT, () -> forms.multiply(5, w[0], w[1]));
            check.refused(w[0] + " by " + w[1], forms, Check.ARGUMENT, () -> forms.multiply(w[0], w[0], w[1]));
        }
        int[][] well = {{0, 0}, {0, 1}, {1, 2}, {2, 3}};
        for (int[] w : well) {
            forms.multiply(5, w[0], w[1]);
            check.due("rows of " + w[0], forms.size(5, false), forms.size(w[0], false));
            check.due("columns of " + w[1], forms.size(5, true), forms.size(w[1], true));
        }
        Check.power(forms, 0, 2, 1, 3999);
        Check.fill(forms, 1, 2, 1, 0);
        check.refused("it is named before what is too long", forms, Check.ARGUMENT, () -> forms.multiply(2, 0, 1));
    }

    /** Promise 6: "UnsupportedOperationException." Here, a whole cell of 4000 and of more. */
    private static void lengthOfUpper(Check check) {
        Counted forms = new Counted();
        Check.power(forms, 0, 2, 1, 3998);
        Check.put(forms, 1, "-2");
        forms.multiply(2, 0, 1);
        check.register("-2^3999", forms, 2, BigInteger.TWO.pow(3999).negate().toString());
        check.refused("2^4000", forms, Check.UNSUPPORTED, () -> forms.multiply(2, 2, 1));
        check.refused("2^4000, the other way", forms, Check.UNSUPPORTED, () -> forms.multiply(1, 1, 2));
        check.refused("2^7996", forms, Check.UNSUPPORTED, () -> forms.multiply(0, 0, 0));
        forms.beside(3, 2, 2);
        Check.put(forms, 4, "1; 1");
        check.refused("2^3999 twice", forms, Check.UNSUPPORTED, () -> forms.multiply(5, 3, 4));
        Check.put(forms, 4, "1; -1");
        forms.multiply(5, 3, 4);
        check.register("2^3999 less itself", forms, 5, "0");
    }

    /** Promise 6: "UnsupportedOperationException." Here, COMMON of 4000 and of more. */
    private static void lengthOfCommon(Check check) {
        Counted forms = new Counted();
        Check.power(forms, 3, 1, 2, 3998);
        check.refused("COMMON of 2^7996", forms, Check.UNSUPPORTED, () -> forms.multiply(4, 3, 3));
        Check.put(forms, 4, "1/2");
        forms.multiply(5, 3, 4);
        check.register("1 / 2^3999", forms, 5, "1/" + BigInteger.TWO.pow(3999));
        check.refused("1 / 2^4000", forms, Check.UNSUPPORTED, () -> forms.multiply(5, 5, 4));
        check.refused("1 / 2^4000, the other way", forms, Check.UNSUPPORTED, () -> forms.multiply(4, 4, 5));
    }

    /** Promise 6: "UnsupportedOperationException." Here, a cell times COMMON of 4000 and of more. */
    private static void lengthOfCells(Check check) {
        Counted forms = new Counted();
        Check.power(forms, 1, 1, 2, 3999);
        Check.place(forms, 0, new int[] {2, 1}, 0, 0, 1);
        forms.set(0, 1, 0, -1, 1);
        Check.put(forms, 1, "-1");
        forms.multiply(2, 0, 1);
        check.due("1 times COMMON", Check.cell(forms, 2, 1, 0).toString(), "1");
        Check.put(forms, 1, "3");
        check.refused("3 times COMMON", forms, Check.UNSUPPORTED, () -> forms.multiply(2, 0, 1));
        Check.put(forms, 1, "2");
        forms.multiply(2, 0, 1);
        check.due("2 times COMMON, which is less now", Check.cell(forms, 2, 1, 0).toString(), "-2");
    }

    /** Promise 6: "UnsupportedOperationException." It is the result that is too long, nothing else. */
    private static void onlyTheResultCounts(Check check) {
        Counted forms = new Counted();
        Check.power(forms, 0, 2, 1, 3999);
        Check.power(forms, 3, 1, 2, 3999);
        forms.multiply(4, 0, 3);
        check.register("2^3999 / 2^3999", forms, 4, "1");
        Check.fill(forms, 1, 1, 16, 0);
        Check.fill(forms, 2, 16, 1, 3);
        forms.multiply(4, 1, 2);
        check.register("sixteen times", forms, 4, "16");
        Check.power(forms, 0, 1, 2, 3999);
        forms.beside(1, 0, 0);
        Check.put(forms, 2, "1/2; 1/2");
        forms.multiply(4, 1, 2);
        check.holds("1 / 2^4000 twice", forms.same(4, 0));
    }

    /** Sixteen products of 4000 bits by 4000 are summed before anything can be shortened. */
    private static void longestSums(Check check) {
        Counted forms = new Counted();
        // Both are squares, as WEIGHT lets nothing longer than 2000 bits be inverted.
        squareAndInverse(forms, 0, 1, "-1");
        squareAndInverse(forms, 2, 3, "-3");
        forms.multiply(0, 0, 3);
        forms.multiply(1, 1, 2);
        check.due("upper", forms.length(0, 0, 0, false), 4000);
        check.due("lower", forms.length(0, 0, 0, true), 4000);
        for (int i = 0; i < 4; i++) {
            forms.beside(0, 0, 0);
            forms.beside(1, 1, 1);
        }
        forms.turn(1, 1);
        forms.multiply(2, 0, 1);
        check.register("x / y by y / x, sixteen times", forms, 2, "16");
    }

    /** Of 2^2000 plus the number. */
    private static void squareAndInverse(Counted forms, int square, int inverse, String more) {
        Check.power(forms, square, 2, 1, 2000);
        Check.put(forms, 6, more);
        forms.add(square, square, 6, false);
        forms.invert(inverse, square);
        forms.multiply(square, square, square);
        forms.multiply(inverse, inverse, inverse);
    }

    /** Promise 6: "UnsupportedOperationException." Here, 20000 limbs and one more. */
    private static void limbs(Check check) {
        Counted forms = new Counted();
        Check.full(forms);
        Check.shorten(forms, 3935);
        forms.set(0, 3, 10, 1, 1);
        forms.unit(2, 11);
        forms.multiply(3, 0, 2);
        check.holds("20000 limbs", forms.same(3, 0));
        forms.set(2, 10, 10, 1L << 31, 1);
        forms.multiply(3, 0, 2);
        check.due("2^31 has one limb as 1 has", forms.length(3, 3, 10, false), 32);
        forms.set(2, 10, 10, 1L << 32, 1);
        check.refused("2^32 has two", forms, Check.UNSUPPORTED, () -> forms.multiply(3, 0, 2));
        check.refused("to its own", forms, Check.UNSUPPORTED, () -> forms.multiply(0, 0, 2));
        forms.set(2, 0, 0, 0, 1);
        forms.multiply(3, 0, 2);
        check.due("there is room without the first column", forms.length(3, 3, 10, false), 33);
        check.due("which is 0", forms.sign(3, 15, 0), 0);
        limbsOfCommon(check);
    }

    /** One cell of COMMON counts like the others: 160 cells of 125 limbs have no room for it. */
    private static void limbsOfCommon(Check check) {
        Counted forms = new Counted();
        Check.power(forms, 1, 2, 1, 3999);
        check.refused("160 cells of 125 limbs and COMMON", forms, Check.UNSUPPORTED, 6,
            () -> Check.fill(forms, 0, 16, 10, 1));
        Check.fill(forms, 0, 15, 10, 1);
        check.due("150 cells", forms.length(0, 14, 9, false), 4000);
        Check.fullOfFractions(forms);
        forms.unit(2, 10);
        forms.multiply(3, 0, 2);
        check.holds("159 cells and COMMON of 125 limbs", forms.same(3, 0));
        Check.place(forms, 4, new int[] {16, 16}, 15, 15, 1);
        forms.unit(2, 16);
        forms.add(4, 4, 2, false);
        check.refused("cells and COMMON twice as long", forms, Check.UNSUPPORTED, () -> forms.multiply(3, 4, 0));
    }
}
