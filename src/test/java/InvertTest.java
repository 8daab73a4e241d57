import java.math.BigInteger;

/** Promise 13: invert. */
public final class InvertTest {
    public static void main(String[] args) {
        Check check = new Check();
        known(check);
        drawn(check);
        none(check);
        registers(check);
        squares(check);
        weight(check);
        weightOfTheUnit(check);
        check.end("InvertTest");
    }

    /** Promise 13: "The inverse;" */
    private static void known(Check check) {
        known(check, "5", "1/5");
        known(check, "-2/3", "-3/2");
        known(check, "1 2; 3 4", "-2 1; 3/2 -1/2");
        known(check, "0 1; 1 0", "0 1; 1 0");
        known(check, "1/2 1/3; 1/4 1/5", "12 -20; -15 30");
        known(check, "0 0 2; 3 0 0; 0 1/4 0", "0 1/3 0; 0 0 4; 1/2 0 0");
        known(check, "1 1/2 1/3; 1/2 1/3 1/4; 1/3 1/4 1/5", "9 -36 30; -36 192 -180; 30 -180 180");
    }

    private static void known(Check check, String from, String want) {
        Counted forms = new Counted();
        Check.put(forms, 0, from);
        check.holds("invert " + from, forms.invert(1, 0));
        check.register("invert " + from, forms, 1, want);
        check.register("it stays", forms, 0, from);
        check.holds("to its own", forms.invert(0, 0));
        check.register("to its own", forms, 0, want);
    }

    private static void drawn(Check check) {
        Draws draws = new Draws(13);
        for (int round = 0; round < 150; round++) {
            int n = draws.upTo(round % 10 == 0 ? 12 : 5);
            compare(check, "drawn " + round, round % 2 == 0 ? draws.fractions(n, n, 4, round % 7)
                : Model.fractions(draws.ofRank(n, n, n, 15)));
        }
        compare(check, "16 at the bound", Model.fractions(draws.wholes(16, 16, 121, 4)));
        compare(check, "9 at the bound", Model.fractions(draws.wholes(9, 9, 218, 2)));
        compare(check, "2 at the bound", Model.fractions(draws.wholes(2, 2, 999, 0)));
        compare(check, "1 at the bound", Model.fractions(draws.wholes(1, 1, 2000, 0)));
    }

    private static void compare(Check check, String what, Ratio[][] m) {
        Counted forms = new Counted();
        Model model = new Model();
        Check.put(forms, 0, m);
        model.registers[0] = m;
        boolean found = forms.invert(1, 0);
        check.due(what, found, model.invert(1, 0));
        check.register(what, forms, 1, model.registers[1]);
        if (found) {
            forms.multiply(2, 0, 1);
            forms.unit(3, m.length);
            check.holds(what + ": times it is 1", forms.same(2, 3));
        }
    }

    /** Promise 13: "false, and nothing changes, if there is none." */
    private static void none(Check check) {
        for (String from : new String[] {"0", "1 2; 2 4", "0 0; 0 0", "1 2 3; 4 5 6; 7 8 9", "1/2 1/3; 1/4 1/6"}) {
            Counted forms = new Counted();
            Check.put(forms, 0, from);
            Check.put(forms, 1, "1/2 3");
            check.leaves("invert " + from, forms, false, () -> forms.invert(1, 0));
            check.leaves("to its own", forms, false, () -> forms.invert(0, 0));
        }
        Counted forms = new Counted();
        forms.unit(0, 16);
        forms.set(0, 15, 15, 0, 1);
        check.leaves("one of 16 rows is 0", forms, false, () -> forms.invert(1, 0));
        forms.set(0, 15, 15, -1, 3);
        check.holds("now none is", forms.invert(1, 0));
        check.due("its last cell", Check.cell(forms, 1, 15, 15).toString(), "-3");
    }

    /** Promise 13: "IndexOutOfBoundsException;" */
    private static void registers(Check check) {
        Bounds.registers(check, "invert", 2, (forms, r) -> forms.invert(r[0], r[1]));
        Counted forms = new Counted();
        Check.power(forms, 1, 2, 1, 2000);
        forms.make(2, 1, 2);
        for (int r : new int[] {-1, 8}) {
            check.refused("it is named before WEIGHT", forms, Check.INDEX, () -> forms.invert(r, 1));
            check.refused("it is named before squares", forms, Check.INDEX, () -> forms.invert(r, 2));
            check.refused("also where there is none", forms, Check.INDEX, () -> forms.invert(r, 0));
        }
    }

    /** Promise 13: "IllegalArgumentException: a is not square;" */
    private static void squares(Check check) {
        Counted forms = new Counted();
        Check.put(forms, 0, "1 2; 3 4; 5 6");
        check.refused("3 by 2", forms, Check.ARGUMENT, () -> forms.invert(1, 0));
        forms.turn(0, 0);
        check.refused("2 by 3", forms, Check.ARGUMENT, () -> forms.invert(0, 0));
        forms.make(2, 1, 16);
        check.refused("1 by 16, of 0", forms, Check.ARGUMENT, () -> forms.invert(1, 2));
        forms.make(2, 16, 15);
        check.refused("16 by 15, of 0", forms, Check.ARGUMENT, () -> forms.invert(1, 2));
        Check.power(forms, 1, 2, 1, 2000);
        Check.fill(forms, 0, 1, 2, 1);
        check.refused("it is named before WEIGHT", forms, Check.ARGUMENT, () -> forms.invert(2, 0));
        forms.unit(0, 2);
        check.holds("2 by 2", forms.invert(1, 0));
    }

    /** Promise 13: "UnsupportedOperationException, WEIGHT of it and the unit matrix side by side (likewise)." */
    private static void weight(Check check) {
        WeightCheck weight = new WeightCheck(check, "invert", f -> f.invert(2, 0) ? 1 : 0,
            m -> m.invert(2, 0) ? 1 : 0);
        weight.ofSquares();
        Counted forms = new Counted();
        Check.power(forms, 0, 2, 1, 2000);
        check.refused("to its own", forms, Check.UNSUPPORTED, () -> forms.invert(0, 0));
        Check.power(forms, 3, 2, 1, 998);
        Check.fill(forms, 0, 2, 2, 3);
        check.leaves("there is none", forms, false, () -> forms.invert(1, 0));
        Check.power(forms, 3, 2, 1, 999);
        Check.fill(forms, 0, 2, 2, 3);
        check.refused("there would be none", forms, Check.UNSUPPORTED, () -> forms.invert(1, 0));
    }

    /** The rows of both are made whole together: so the unit matrix's cells may be the longest. */
    private static void weightOfTheUnit(Check check) {
        Counted forms = new Counted();
        Check.power(forms, 0, 1, 2, 1999);
        check.holds("1 / 2^1999", forms.invert(1, 0));
        check.register("1 / 2^1999", forms, 1, BigInteger.TWO.pow(1999).toString());
        check.due("it alone", forms.echelon(2, 0), 1);
        Check.power(forms, 0, 1, 2, 2000);
        check.refused("1 / 2^2000", forms, Check.UNSUPPORTED, () -> forms.invert(1, 0));
        check.due("it alone is not too heavy", forms.echelon(2, 0), 1);
        Check.power(forms, 3, 1, 2, 998);
        Check.fill(forms, 0, 2, 2, 3);
        check.leaves("two rows of 1 / 2^998", forms, false, () -> forms.invert(1, 0));
        forms.set(0, 0, 0, 0, 1);
        check.holds("now it has one", forms.invert(1, 0));
        check.due("its last cell", forms.sign(1, 1, 1), 0);
        Check.power(forms, 3, 1, 2, 999);
        Check.fill(forms, 0, 2, 2, 3);
        check.refused("two rows of 1 / 2^999", forms, Check.UNSUPPORTED, () -> forms.invert(1, 0));
    }
}
