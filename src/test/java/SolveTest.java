import java.math.BigInteger;

/** Promise 12: solve. */
public final class SolveTest {
    public static void main(String[] args) {
        Check check = new Check();
        known(check);
        none(check);
        drawn(check);
        wrong(check);
        weight(check);
        check.end("SolveTest");
    }

    private static void known(Check check) {
        known(check, "1 2; 3 4", "5; 6", "-4; 9/2");
        known(check, "2", "3 1/2 0", "3/2 1/4 0");
        known(check, "1 2 3; 2 4 6", "1; 2", "1; 0; 0");
        known(check, "0 0 2; 0 3 1", "4 0; 5 1", "0 0; 1 1/3; 2 0");
        known(check, "0 0; 0 0", "0; 0", "0; 0");
        known(check, "0", "0 0 0", "0 0 0");
        known(check, "1; 2; 1/2", "1/3; 2/3; 1/6", "1/3");
        known(check, "1/2 1/3; 1/4 1/5", "1 0; 0 1", "12 -20; -15 30");
    }

    private static void known(Check check, String a, String b, String want) {
        ExactForms forms = new ExactForms();
        Check.put(forms, 0, a);
        Check.put(forms, 1, b);
        check.holds("solve " + a + " | " + b, forms.solve(2, 0, 1));
        check.register("solve " + a + " | " + b, forms, 2, want);
        check.register("a stays", forms, 0, a);
        check.register("b stays", forms, 1, b);
        check.holds("to a", forms.solve(0, 0, 1));
        check.register("to a", forms, 0, want);
        Check.put(forms, 0, a);
        check.holds("to b", forms.solve(1, 0, 1));
        check.register("to b", forms, 1, want);
    }

    private static void none(Check check) {
        String[][] pairs = {{"0", "1"}, {"1 2; 2 4", "1; 3"}, {"1; 0", "0; 1"}, {"0 0; 0 0", "0 0; 0 1/9"},
            {"1 0; 0 1; 1 1", "1; 1; 3"}, {"1 2; 2 4", "1 1; 2 3"}};
        for (String[] pair : pairs) {
            ExactForms forms = new ExactForms();
            Check.put(forms, 0, pair[0]);
            Check.put(forms, 1, pair[1]);
            for (int to = 0; to < 3; to++) {
                check.due("solve " + pair[0] + " | " + pair[1], forms.solve(to, 0, 1), false);
                check.register("a stays", forms, 0, pair[0]);
                check.register("b stays", forms, 1, pair[1]);
                check.register("another stays", forms, 2, "0");
            }
        }
    }

    private static void drawn(Check check) {
        Draws draws = new Draws(12);
        for (int round = 0; round < 300; round++) {
            int rows = draws.upTo(round % 10 == 0 ? 10 : 5);
            int columns = draws.upTo(round % 10 == 0 ? 10 : 5);
            Ratio[][] a = round % 2 == 0 ? draws.fractions(rows, columns, 4, round % 8)
                : Model.fractions(draws.ofRank(rows, columns, draws.upTo(3), 20));
            Ratio[][] b = round % 3 == 0 ? draws.fractions(rows, draws.upTo(4), 3, 3)
                : Model.product(a, draws.fractions(columns, draws.upTo(4), 3, 3));
            compare(check, "drawn " + round, a, b);
        }
        compare(check, "16 by 16 and 16 at the bound", Model.fractions(draws.wholes(16, 16, 121, 0)),
            Model.fractions(draws.wholes(16, 16, 121, 0)));
        compare(check, "4 by 4 and 1 at the bound", Model.fractions(draws.wholes(4, 4, 498, 0)),
            Model.fractions(draws.wholes(4, 1, 498, 0)));
        compare(check, "1 by 1 and 16 at the bound", Model.fractions(draws.wholes(1, 1, 2000, 0)),
            Model.fractions(draws.wholes(1, 16, 2000, 0)));
    }

    private static void compare(Check check, String what, Ratio[][] a, Ratio[][] b) {
        ExactForms forms = new ExactForms();
        Model model = new Model();
        Check.put(forms, 0, a);
        Check.put(forms, 1, b);
        model.registers[0] = a;
        model.registers[1] = b;
        boolean found = forms.solve(2, 0, 1);
        check.due(what, found, model.solve(2, 0, 1));
        check.register(what, forms, 2, model.registers[2]);
        if (found) {
            forms.multiply(3, 0, 2);
            check.holds(what + ": a X = b", forms.same(3, 1));
        }
    }

    private static void wrong(Check check) {
        ExactForms forms = new ExactForms();
        Check.put(forms, 0, "1 2; 3 4");
        Check.put(forms, 1, "1 2; 3 4; 5 6");
        check.refused("not as many rows", forms, Check.ARGUMENT, () -> forms.solve(2, 0, 1));
        check.refused("not as many rows", forms, Check.ARGUMENT, () -> forms.solve(0, 1, 0));
        check.refused("to", forms, Check.INDEX, () -> forms.solve(8, 0, 1));
        check.refused("a", forms, Check.INDEX, () -> forms.solve(0, -1, 1));
        check.refused("b", forms, Check.INDEX, () -> forms.solve(0, 1, 8));
        Check.power(forms, 3, 2, 1, 2000);
        check.refused("not as many rows, too heavy", forms, Check.ARGUMENT, () -> forms.solve(2, 0, 3));
    }

    /** The weight is that of both side by side, with rows made whole together. */
    private static void weight(Check check) {
        WeightCheck.square(check, "solve", forms -> forms.solve(2, 0, 0));
        WeightCheck.fractions(check, "solve", forms -> forms.solve(2, 0, 0));
        ExactForms forms = new ExactForms();
        Check.power(forms, 0, 2, 1, 1999);
        Check.put(forms, 1, "1");
        check.holds("2^1999 x = 1", forms.solve(2, 0, 1));
        check.due("2^1999 x = 1", forms.length(2, 0, 0, true), 2000);
        check.holds("x = 2^1999", forms.solve(2, 1, 0));
        check.holds("x = 2^1999", forms.same(2, 0));
        Check.power(forms, 0, 2, 1, 2000);
        check.refused("2^2000 x = 1", forms, Check.UNSUPPORTED, () -> forms.solve(2, 0, 1));
        check.refused("x = 2^2000", forms, Check.UNSUPPORTED, () -> forms.solve(2, 1, 0));
        Check.put(forms, 1, "0");
        check.refused("0 x = 2^2000 has no answer, but is too heavy", forms, Check.UNSUPPORTED,
            () -> forms.solve(2, 1, 0));
        Check.power(forms, 0, 1, 2, 3999);
        check.holds("x / 2^3999 = 1 / 2^3999", forms.solve(2, 0, 0));
        check.register("x / 2^3999 = 1 / 2^3999", forms, 2, "1");
        Check.put(forms, 1, "1/4");
        check.refused("x / 2^3999 = 1 / 4", forms, Check.UNSUPPORTED, () -> forms.solve(2, 0, 1));
        Check.power(forms, 1, 1, 2, 2000);
        check.holds("x / 2^3999 = 1 / 2^2000", forms.solve(2, 0, 1));
        check.due("x is 2^1999", Check.cell(forms, 2, 0, 0).upper, BigInteger.TWO.pow(1999));
        Check.power(forms, 0, 1, 3, 2000);
        check.refused("x / 3^2000 = 1 / 2^2000", forms, Check.UNSUPPORTED, () -> forms.solve(2, 0, 1));
        columnsOfBoth(check);
    }

    private static void columnsOfBoth(Check check) {
        ExactForms forms = new ExactForms();
        Check.put(forms, 0, new Ratio[][] {{Ratio.whole(BigInteger.TWO.pow(1500))}, {Ratio.ONE}});
        Check.put(forms, 1, "0; 0");
        check.due("one column alone has k = 1", forms.echelon(2, 0), 1);
        check.refused("both have k = 2", forms, Check.UNSUPPORTED, () -> forms.solve(2, 0, 1));
        forms.make(0, 1, 16);
        forms.make(1, 1, 16);
        forms.set(0, 0, 15, -2, 3);
        forms.set(1, 0, 15, 1, 1);
        check.holds("32 columns", forms.solve(2, 0, 1));
        check.due("16 rows", forms.size(2, false), 16);
        check.due("the last", Check.cell(forms, 2, 15, 15).toString(), "-3/2");
    }
}
