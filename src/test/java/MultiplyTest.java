import java.math.BigInteger;

/** Promise 6: multiply. */
public final class MultiplyTest {
    public static void main(String[] args) {
        Check check = new Check();
        products(check);
        wrong(check);
        bounds(check);
        longestSums(check);
        check.end("MultiplyTest");
    }

    private static void products(Check check) {
        ExactForms forms = new ExactForms();
        Check.put(forms, 0, "1/2 -3; 0 5/6; 2 1");
        Check.put(forms, 1, "2 0 1/3 -1; 1/5 6 0 1");
        forms.multiply(2, 0, 1);
        check.register("product", forms, 2, "2/5 -18 1/6 -7/2; 1/6 5 0 5/6; 21/5 6 2/3 -1");
        forms.multiply(0, 0, 1);
        check.holds("to the first", forms.same(0, 2));
        Check.put(forms, 0, "1/2 -3; 0 5/6; 2 1");
        forms.multiply(1, 0, 1);
        check.holds("to the second", forms.same(1, 2));
        Check.put(forms, 3, "0 1; 1/2 1");
        forms.multiply(3, 3, 3);
        check.register("of itself to itself", forms, 3, "1/2 1; 1/2 3/2");
        Check.put(forms, 4, "1 2 3");
        Check.put(forms, 5, "4; 5; 6");
        forms.multiply(6, 4, 5);
        check.register("row by column", forms, 6, "32");
        forms.multiply(6, 5, 4);
        check.register("column by row", forms, 6, "4 8 12; 5 10 15; 6 12 18");
        Check.put(forms, 0, "1/3 1/3 1/3");
        Check.put(forms, 1, "1; 1; 1");
        forms.multiply(2, 0, 1);
        check.register("thirds", forms, 2, "1");
        check.due("COMMON is 1", forms.smith(2, 2), 1);
        sixteen(check, forms);
    }

    private static void sixteen(Check check, ExactForms forms) {
        Model model = new Model();
        for (int r = 0; r < 2; r++) {
            forms.make(r, 16, 16);
            model.make(r, 16, 16);
            for (int i = 0; i < 256; i++) {
                long u = (i * 7919L + 31 * r) * (Long.MAX_VALUE / 4000000) * (i % 3 - 1);
                forms.set(r, i / 16, i % 16, u, 1 + i % 7);
                model.set(r, i / 16, i % 16, u, 1 + i % 7);
            }
        }
        forms.multiply(2, 0, 1);
        model.multiply(2, 0, 1);
        check.register("16 by 16", forms, 2, model.registers[2]);
    }

    private static void wrong(Check check) {
        ExactForms forms = new ExactForms();
        Check.put(forms, 0, "1 2; 3 4");
        Check.put(forms, 1, "1 2 3; 3 4 5");
        check.refused("3 columns, 2 rows", forms, Check.ARGUMENT, () -> forms.multiply(2, 1, 0));
        check.refused("3 columns, 2 rows, to its own", forms, Check.ARGUMENT, () -> forms.multiply(1, 1, 1));
        check.refused("to", forms, Check.INDEX, () -> forms.multiply(-1, 1, 0));
        check.refused("a", forms, Check.INDEX, () -> forms.multiply(2, 8, 0));
        check.refused("b", forms, Check.INDEX, () -> forms.multiply(2, 1, Integer.MIN_VALUE));
    }

    private static void bounds(Check check) {
        ExactForms forms = new ExactForms();
        Check.power(forms, 0, 2, 1, 3998);
        Check.put(forms, 1, "-2");
        forms.multiply(2, 0, 1);
        check.due("-2^3999", Check.cell(forms, 2, 0, 0).upper, BigInteger.TWO.pow(3999).negate());
        check.refused("2^4000", forms, Check.UNSUPPORTED, () -> forms.multiply(2, 2, 1));
        check.refused("2^7996", forms, Check.UNSUPPORTED, () -> forms.multiply(0, 0, 0));
        Check.power(forms, 3, 1, 2, 3998);
        forms.multiply(4, 0, 3);
        check.register("only the result counts", forms, 4, "1");
        check.refused("COMMON of 2^7996", forms, Check.UNSUPPORTED, () -> forms.multiply(4, 3, 3));
        Check.put(forms, 4, "1/2");
        forms.multiply(5, 3, 4);
        check.due("1 / 2^3999", forms.length(5, 0, 0, true), 4000);
        check.refused("1 / 2^4000", forms, Check.UNSUPPORTED, () -> forms.multiply(5, 5, 4));
        Check.power(forms, 1, 2, 1, 3999);
        check.refused("160 cells of 125 limbs and COMMON", forms, Check.UNSUPPORTED, 6,
            () -> Check.fill(forms, 0, 16, 10, 1));
        Check.fill(forms, 0, 15, 10, 1);
        check.due("150 cells", forms.length(0, 14, 9, false), 4000);
    }

    /** Sixteen products of 4000 bits by 4000 are summed before anything can be shortened. */
    private static void longestSums(Check check) {
        ExactForms forms = new ExactForms();
        // Both are squares, as WEIGHT lets nothing longer than 2000 bits be inverted.
        squareAndInverse(forms, 0, 1, "-1");
        squareAndInverse(forms, 2, 3, "-3");
        forms.multiply(0, 0, 3);
        forms.multiply(1, 1, 2);
        check.due("upper", forms.length(0, 0, 0, false), 4000);
        check.due("lower", forms.length(0, 0, 0, true), 4000);
        for (int i = 0; i < 4; i++) {
            forms.beside(0, 0, 0);
            forms.beside(1, 1, 1);
        }
        forms.turn(1, 1);
        forms.multiply(2, 0, 1);
        check.register("x / y by y / x, sixteen times", forms, 2, "16");
    }

    /** Of 2^2000 plus the number. */
    private static void squareAndInverse(ExactForms forms, int square, int inverse, String more) {
        Check.power(forms, square, 2, 1, 2000);
        Check.put(forms, 6, more);
        forms.add(square, square, 6, false);
        forms.invert(inverse, square);
        forms.multiply(square, square, square);
        forms.multiply(inverse, inverse, inverse);
    }
}
