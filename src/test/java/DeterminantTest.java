import java.math.BigInteger;

/** Promise 14: determinant. */
public final class DeterminantTest {
    public static void main(String[] args) {
        Check check = new Check();
        known(check);
        drawn(check);
        wrong(check);
        WeightCheck.square(check, "determinant", forms -> forms.determinant(2, 0));
        bounds(check);
        check.end("DeterminantTest");
    }

    private static void known(Check check) {
        known(check, "0", "0");
        known(check, "-7/3", "-7/3");
        known(check, "1 2; 3 4", "-2");
        known(check, "0 1; 1 0", "-1");
        known(check, "0 0 1; 0 1 0; 1 0 0", "-1");
        known(check, "0 1 0; 0 0 1; 1 0 0", "1");
        known(check, "1/2 1/3; 1/4 1/5", "1/60");
        known(check, "1 2 3; 4 5 6; 7 8 9", "0");
        known(check, "1 1/2 1/3; 1/2 1/3 1/4; 1/3 1/4 1/5", "1/2160");
        known(check, "2/3 0; 5 -3/2", "-1");
        known(check, "0 0; 0 0", "0");
        known(check, "6/5 0 0; 0 10/3 0; 0 0 1/4", "1");
    }

    private static void known(Check check, String from, String want) {
        ExactForms forms = new ExactForms();
        Check.put(forms, 0, from);
        forms.determinant(1, 0);
        check.register("determinant of " + from, forms, 1, want);
        check.register("it stays", forms, 0, from);
        forms.determinant(0, 0);
        check.register("to its own", forms, 0, want);
    }

    private static void drawn(Check check) {
        Draws draws = new Draws(14);
        for (int round = 0; round < 200; round++) {
            int n = draws.upTo(round % 10 == 0 ? 16 : 6);
            compare(check, "drawn " + round, round % 2 == 0 ? draws.fractions(n, n, 5, round % 7)
                : Model.fractions(draws.ofRank(n, n, n, 15)));
        }
        compare(check, "16 at the bound", Model.fractions(draws.wholes(16, 16, 121, 0)));
        compare(check, "3 at the bound", Model.fractions(draws.wholes(3, 3, 664, 0)));
    }

    private static void compare(Check check, String what, Ratio[][] m) {
        ExactForms forms = new ExactForms();
        Check.put(forms, 0, m);
        if (Model.weight(m) > 2000) {
            check.refused(what, forms, Check.UNSUPPORTED, () -> forms.determinant(1, 0));
        } else {
            forms.determinant(1, 0);
            check.register(what, forms, 1, new Ratio[][] {{Model.determinantOf(m)}});
        }
    }

    private static void wrong(Check check) {
        ExactForms forms = new ExactForms();
        Check.put(forms, 0, "1 2 3; 3 4 5");
        check.refused("not square", forms, Check.ARGUMENT, () -> forms.determinant(1, 0));
        check.refused("to", forms, Check.INDEX, () -> forms.determinant(8, 0));
        check.refused("a", forms, Check.INDEX, () -> forms.determinant(1, -1));
        Check.power(forms, 1, 2, 1, 2000);
        Check.fill(forms, 0, 2, 1, 1);
        check.refused("not square, too heavy", forms, Check.ARGUMENT, () -> forms.determinant(2, 0));
        Check.fill(forms, 0, 2, 2, 1);
        check.refused("0, but too heavy", forms, Check.UNSUPPORTED, () -> forms.determinant(2, 0));
    }

    /** The rows weigh little, but the lower part of the determinant may be too long. */
    private static void bounds(Check check) {
        ExactForms forms = new ExactForms();
        Check.power(forms, 1, 1, 2, 2000);
        Check.place(forms, 3, new int[] {2, 2}, 0, 0, 1);
        Check.power(forms, 1, 1, 2, 1999);
        Check.place(forms, 4, new int[] {2, 2}, 1, 1, 1);
        forms.add(0, 3, 4, false);
        forms.determinant(2, 0);
        check.due("1 / 2^3999", Check.cell(forms, 2, 0, 0).lower, BigInteger.TWO.pow(3999));
        Check.power(forms, 1, 1, 2, 2000);
        Check.place(forms, 4, new int[] {2, 2}, 1, 1, 1);
        forms.add(0, 3, 4, false);
        check.refused("1 / 2^4000", forms, Check.UNSUPPORTED, () -> forms.determinant(2, 0));
        forms.determinant(2, 3);
        check.register("a row of 0", forms, 2, "0");
        Check.power(forms, 1, 1, 2, 3000);
        Check.fill(forms, 0, 16, 16, 1);
        forms.determinant(2, 0);
        check.register("equal rows", forms, 2, "0");
        Check.power(forms, 5, 1, 3, 600);
        Check.place(forms, 3, new int[] {2, 2}, 0, 1, 5);
        Check.power(forms, 5, 3, 1, 601);
        Check.place(forms, 4, new int[] {2, 2}, 1, 0, 5);
        forms.add(0, 3, 4, false);
        forms.determinant(2, 0);
        check.register("what is over in one row shortens the other", forms, 2, "-3");
    }
}
