import java.math.BigInteger;

/** Promise 12: solve. */
public final class SolveTest {
    public static void main(String[] args) {
        Check check = new Check();
        known(check);
        drawn(check);
        none(check);
        registers(check);
        rows(check);
        weight(check);
        weightOfBoth(check);
        columnsOfBoth(check);
        weightBeforeAll(check);
        check.end("SolveTest");
    }

    /** Promise 12: "The X with a X = b whose rows are 0 but for those of pivots' columns of a's echelon form;" */
    private static void known(Check check) {
        known(check, "1 2; 3 4", "5; 6", "-4; 9/2");
        known(check, "2", "3 1/2 0", "3/2 1/4 0");
        known(check, "1 2 3; 2 4 6", "1; 2", "1; 0; 0");
        known(check, "0 0 2; 0 3 1", "4 0; 5 1", "0 0; 1 1/3; 2 0");
        known(check, "0 0; 0 0", "0; 0", "0; 0");
        known(check, "0", "0 0 0", "0 0 0");
        known(check, "1; 2; 1/2", "1/3; 2/3; 1/6", "1/3");
        known(check, "1/2 1/3; 1/4 1/5", "1 0; 0 1", "12 -20; -15 30");
        known(check, "0 1 1; 0 2 2; 0 0 0", "3; 6; 0", "0; 3; 0");
    }

    private static void known(Check check, String a, String b, String want) {
        Counted forms = new Counted();
        Check.put(forms, 0, a);
        Check.put(forms, 1, b);
        check.holds("solve " + a + " | " + b, forms.solve(2, 0, 1));
        check.register("solve " + a + " | " + b, forms, 2, want);
        check.register("a stays", forms, 0, a);
        check.register("b stays", forms, 1, b);
        check.holds("to a", forms.solve(0, 0, 1));
        check.register("to a", forms, 0, want);
        Check.put(forms, 0, a);
        check.holds("to b", forms.solve(1, 0, 1));
        check.register("to b", forms, 1, want);
    }

    private static void drawn(Check check) {
        Draws draws = new Draws(12);
        for (int round = 0; round < 300; round++) {
            int rows = draws.upTo(round % 10 == 0 ? 10 : 5);
            int columns = draws.upTo(round % 10 == 0 ? 10 : 5);
            Ratio[][] a = round % 2 == 0 ? draws.fractions(rows, columns, 4, round % 8)
                : Model.fractions(draws.ofRank(rows, columns, draws.upTo(3), 20));
            Ratio[][] b = round % 3 == 0 ? draws.fractions(rows, draws.upTo(4), 3, 3)
                : Model.product(a, draws.fractions(columns, draws.upTo(4), 3, 3));
            compare(check, "drawn " + round, a, b);
        }
        compare(check, "16 by 16 and 16 at the bound", Model.fractions(draws.wholes(16, 16, 121, 4)),
            Model.fractions(draws.wholes(16, 16, 60, 7)));
        compare(check, "4 by 4 and 1 at the bound", Model.fractions(draws.wholes(4, 4, 498, 0)),
            Model.fractions(draws.wholes(4, 1, 498, 0)));
        compare(check, "1 by 1 and 16 at the bound", Model.fractions(draws.wholes(1, 1, 2000, 0)),
            Model.fractions(draws.wholes(1, 16, 2000, 6)));
    }

    private static void compare(Check check, String what, Ratio[][] a, Ratio[][] b) {
        Counted forms = new Counted();
        Model model = new Model();
        Check.put(forms, 0, a);
        Check.put(forms, 1, b);
        model.registers[0] = a;
        model.registers[1] = b;
        boolean found = forms.solve(2, 0, 1);
        check.due(what, found, model.solve(2, 0, 1));
        check.register(what, forms, 2, model.registers[2]);
        if (found) {
            forms.multiply(3, 0, 2);
            check.holds(what + ": a X = b", forms.same(3, 1));
        }
    }

    /** Promise 12: "false, and nothing changes, if there is none." */
    private static void none(Check check) {
        String[][] pairs = {{"0", "1"}, {"1 2; 2 4", "1; 3"}, {"1; 0", "0; 1"}, {"0 0; 0 0", "0 0; 0 1/9"},
            {"1 0; 0 1; 1 1", "1; 1; 3"}, {"1 2; 2 4", "1 1; 2 3"}, {"1 0; 0 0", "7 0 0; 0 0 1/1000"}};
        for (String[] pair : pairs) {
            Counted forms = new Counted();
            Check.put(forms, 0, pair[0]);
            Check.put(forms, 1, pair[1]);
            Check.put(forms, 2, "1/2 3");
            for (int to = 0; to < 3; to++) {
                int at = to;
                check.leaves("solve " + pair[0] + " | " + pair[1], forms, false, () -> forms.solve(at, 0, 1));
            }
        }
        Counted forms = new Counted();
        forms.unit(0, 16);
        forms.set(0, 15, 15, 0, 1);
        forms.make(1, 16, 16);
        forms.set(1, 15, 15, 1, 2);
        check.leaves("the last row of 16 has none", forms, false, () -> forms.solve(1, 0, 1));
        forms.set(1, 15, 15, 0, 1);
        check.holds("now it has", forms.solve(1, 0, 1));
    }

    /** Promise 12: "IndexOutOfBoundsException;" */
    private static void registers(Check check) {
        Bounds.registers(check, "solve", 3, (forms, r) -> forms.solve(r[0], r[1], r[2]));
        Counted forms = new Counted();
        Check.power(forms, 1, 2, 1, 2000);
        forms.make(2, 2, 1);
        for (int r : new int[] {-1, 8}) {
            check.refused("to is named before rows", forms, Check.INDEX, () -> forms.solve(r, 1, 2));
            check.refused("to is named before WEIGHT", forms, Check.INDEX, () -> forms.solve(r, 1, 1));
            check.refused("also where there is none", forms, Check.INDEX, () -> forms.solve(r, 0, 1));
        }
    }

    /** Promise 12: "IllegalArgumentException: not as many rows;" */
    private static void rows(Check check) {
        Counted forms = new Counted();
        Check.put(forms, 0, "1 2; 3 4");
        Check.put(forms, 1, "1 2; 3 4; 5 6");
        Check.put(forms, 2, "1 2");
        check.refused("2 and 3", forms, Check.ARGUMENT, () -> forms.solve(4, 0, 1));
        check.refused("3 and 2", forms, Check.ARGUMENT, () -> forms.solve(0, 1, 0));
        check.refused("2 and 1", forms, Check.ARGUMENT, () -> forms.solve(0, 0, 2));
        Check.power(forms, 3, 2, 1, 2000);
        check.refused("it is named before WEIGHT", forms, Check.ARGUMENT, () -> forms.solve(2, 0, 3));
        check.refused("it is named before WEIGHT", forms, Check.ARGUMENT, () -> forms.solve(2, 3, 0));
        check.holds("2 and 2", forms.solve(4, 0, 0));
    }

    /**
     * Promise 12: "UnsupportedOperationException, WEIGHT of both side by side (which may have more than 16
     * columns)."
     */
    private static void weight(Check check) {
        WeightCheck left = new WeightCheck(check, "solve a X = a", f -> f.solve(2, 0, 0) ? 1 : 0,
            m -> m.solve(2, 0, 0) ? 1 : 0);
        left.ofSquares();
        left.rowsMadeWhole();
        WeightCheck right = new WeightCheck(check, "solve 1 X = b",
            f -> {
                f.unit(1, f.size(0, false));
                return f.solve(2, 1, 0) ? 1 : 0;
            },
            m -> {
                m.unit(1, m.registers[0].length);
                return m.solve(2, 1, 0) ? 1 : 0;
            });
        right.isTaken("2^1999", power(1999));
        right.isTaken("2^2000 - 1", new Ratio[][] {{power(2000)[0][0].minus(Ratio.ONE)}});
        right.isTaken("three rows", new Ratio[][] {{Ratio.ZERO}, {Ratio.ONE}, {power(663)[0][0]}});
        Counted forms = new Counted();
        Check.power(forms, 0, 2, 1, 2000);
        forms.unit(1, 1);
        check.refused("x = 2^2000", forms, Check.UNSUPPORTED, () -> forms.solve(2, 1, 0));
        check.refused("2^2000 x = 1", forms, Check.UNSUPPORTED, () -> forms.solve(2, 0, 1));
    }

    private static Ratio[][] power(int e) {
        return new Ratio[][] {{Ratio.whole(BigInteger.TWO.pow(e))}};
    }

    /** The rows of both are made whole together. */
    private static void weightOfBoth(Check check) {
        Counted forms = new Counted();
        Check.power(forms, 0, 2, 1, 1999);
        Check.put(forms, 1, "1");
        check.holds("2^1999 x = 1", forms.solve(2, 0, 1));
        check.register("2^1999 x = 1", forms, 2, "1/" + BigInteger.TWO.pow(1999));
        Check.power(forms, 0, 1, 2, 3999);
        check.holds("x / 2^3999 = 1 / 2^3999", forms.solve(2, 0, 0));
        check.register("x / 2^3999 = 1 / 2^3999", forms, 2, "1");
        Check.put(forms, 1, "1/4");
        check.refused("x / 2^3999 = 1 / 4", forms, Check.UNSUPPORTED, () -> forms.solve(2, 0, 1));
        Check.power(forms, 1, 1, 2, 2000);
        check.holds("x / 2^3999 = 1 / 2^2000", forms.solve(2, 0, 1));
        check.register("x is 2^1999", forms, 2, BigInteger.TWO.pow(1999).toString());
        Check.power(forms, 1, 1, 2, 1999);
        check.refused("x / 2^3999 = 1 / 2^1999", forms, Check.UNSUPPORTED, () -> forms.solve(2, 0, 1));
        check.refused("x / 2^1999 = 1 / 2^3999", forms, Check.UNSUPPORTED, () -> forms.solve(2, 1, 0));
        Check.power(forms, 0, 1, 3, 2000);
        check.refused("x / 3^2000 = 1 / 2^1999", forms, Check.UNSUPPORTED, () -> forms.solve(2, 0, 1));
    }

    /** k is the lesser of the rows and the columns of both together, of which there may be 32. */
    private static void columnsOfBoth(Check check) {
        Counted forms = new Counted();
        Check.power(forms, 3, 2, 1, 998);
        Check.place(forms, 0, new int[] {2, 1}, 0, 0, 3);
        forms.make(1, 2, 1);
        check.holds("one column each: k is 2", forms.solve(2, 0, 1));
        Check.power(forms, 3, 2, 1, 999);
        Check.place(forms, 0, new int[] {2, 1}, 0, 0, 3);
        check.due("one column alone has k of 1", forms.echelon(2, 0), 1);
        check.refused("one column each: k is not 1", forms, Check.UNSUPPORTED, () -> forms.solve(2, 0, 1));
        Check.place(forms, 0, new int[] {1, 1}, 0, 0, 3);
        forms.make(1, 1, 2);
        check.holds("one row: k is 1", forms.solve(2, 0, 1));
        forms.make(0, 1, 16);
        forms.make(1, 1, 16);
        forms.set(0, 0, 15, -2, 3);
        forms.set(1, 0, 15, 1, 1);
        check.holds("32 columns", forms.solve(2, 0, 1));
        Ratio[][] want = Model.zero(16, 16);
        want[15][15] = Ratio.of(-3, 2);
        check.register("32 columns", forms, 2, want);
        thirtyTwoColumns(check);
    }

    private static void thirtyTwoColumns(Check check) {
        Counted forms = new Counted();
        Check.power(forms, 3, -2, 1, 120);
        Check.place(forms, 1, new int[] {16, 16}, 15, 15, 3);
        forms.unit(0, 16);
        check.holds("k is 16 for 32 columns", forms.solve(2, 0, 1));
        check.holds("1 X = b", forms.same(2, 1));
        Check.power(forms, 3, -2, 1, 121);
        Check.place(forms, 1, new int[] {16, 16}, 15, 15, 3);
        check.refused("a length of 122", forms, Check.UNSUPPORTED, () -> forms.solve(2, 0, 1));
    }

    /** WEIGHT is looked at before it is known that there is no X. */
    private static void weightBeforeAll(Check check) {
        Counted forms = new Counted();
        Check.power(forms, 0, 2, 1, 1999);
        forms.make(1, 1, 1);
        check.leaves("0 x = 2^1999", forms, false, () -> forms.solve(2, 1, 0));
        Check.power(forms, 0, 2, 1, 2000);
        check.refused("0 x = 2^2000", forms, Check.UNSUPPORTED, () -> forms.solve(2, 1, 0));
        check.refused("to its own", forms, Check.UNSUPPORTED, () -> forms.solve(0, 1, 0));
        check.refused("2^2000 x = 0", forms, Check.UNSUPPORTED, () -> forms.solve(2, 0, 1));
    }
}
