/** Promise 11: kernel. */
public final class KernelTest {
    public static void main(String[] args) {
        Check check = new Check();
        known(check);
        drawn(check);
        none(check);
        registers(check);
        weight(check);
        check.end("KernelTest");
    }

    /** Promise 11: "The echelon form, without rows of 0, whose rows span all x with a x' = 0: how many rows;" */
    private static void known(Check check) {
        known(check, "1 2 3; 2 4 6", 2, "1 0 -1/3; 0 1 -2/3");
        known(check, "1 1", 1, "1 -1");
        known(check, "0", 1, "1");
        known(check, "0 0; 0 0", 2, "1 0; 0 1");
        known(check, "0 1/2 0", 2, "1 0 0; 0 0 1");
        known(check, "1 2 3; 4 5 6; 7 8 9", 1, "1 -2 1");
        known(check, "1 0 0 5; 0 1 0 -1/2", 2, "1 -1/10 0 -1/5; 0 0 1 0");
        known(check, "0 0 3", 2, "1 0 0; 0 1 0");
        known(check, "3 0 0", 2, "0 1 0; 0 0 1");
        known(check, "1 2; 2 4; 3 6", 1, "1 -1/2");
        Counted forms = new Counted();
        forms.make(0, 1, 16);
        check.due("all of 16 columns", forms.kernel(0, 0), 16);
        check.register("all of 16 columns", forms, 0, Model.one(16));
    }

    private static void known(Check check, String from, int count, String want) {
        Counted forms = new Counted();
        Check.put(forms, 0, from);
        check.due("kernel of " + from, forms.kernel(1, 0), count);
        check.register("kernel of " + from, forms, 1, want);
        check.register("it stays", forms, 0, from);
        check.due("kernel of " + from, forms.kernel(0, 0), count);
        check.register("kernel to its own", forms, 0, want);
    }

    private static void drawn(Check check) {
        Draws draws = new Draws(11);
        for (int round = 0; round < 200; round++) {
            int rows = draws.upTo(round % 10 == 0 ? 16 : 5);
            int columns = draws.upTo(round % 10 == 0 ? 16 : 7);
            Ratio[][] m = round % 2 == 0 ? draws.fractions(rows, columns, 4, round % 8)
                : Model.fractions(draws.ofRank(rows, columns, draws.upTo(3), 30));
            compare(check, "drawn " + round, m);
        }
        compare(check, "8 by 16 at the bound", Model.fractions(draws.wholes(8, 16, 247, 4)));
        compare(check, "15 by 16 at the bound", Model.fractions(draws.wholes(15, 16, 129, 4)));
        compare(check, "1 by 16 at the bound", Model.fractions(draws.wholes(1, 16, 2000, 4)));
    }

    private static void compare(Check check, String what, Ratio[][] m) {
        Counted forms = new Counted();
        Model model = new Model();
        Check.put(forms, 0, m);
        model.registers[0] = m;
        int count = forms.kernel(1, 0);
        check.due(what, count, model.kernel(1, 0));
        check.register(what, forms, 1, model.registers[1]);
        if (count > 0) {
            forms.turn(2, 1);
            forms.multiply(2, 0, 2);
            forms.make(3, m.length, count);
            check.holds(what + ": a x' = 0", forms.same(2, 3));
        }
    }

    /** Promise 11: "0, and nothing changes, if there is none." */
    private static void none(Check check) {
        for (String from : new String[] {"5", "1 2; 3 4", "1; 0; 2", "1 2; 2 4; 0 1/7"}) {
            Counted forms = new Counted();
            Check.put(forms, 0, from);
            Check.put(forms, 1, "1/2 3");
            check.leaves("kernel of " + from, forms, 0, () -> forms.kernel(1, 0));
            check.leaves("kernel of " + from + " to its own", forms, 0, () -> forms.kernel(0, 0));
        }
        Counted forms = new Counted();
        forms.unit(0, 16);
        check.leaves("none of 16 columns", forms, 0, () -> forms.kernel(1, 0));
        forms.set(0, 15, 15, 0, 1);
        check.due("one of 16 columns", forms.kernel(1, 0), 1);
        Ratio[][] last = Model.zero(1, 16);
        last[0][15] = Ratio.ONE;
        check.register("one of 16 columns", forms, 1, last);
    }

    /** Promise 11: "IndexOutOfBoundsException;" */
    private static void registers(Check check) {
        Bounds.registers(check, "kernel", 2, (forms, r) -> forms.kernel(r[0], r[1]));
        Counted forms = new Counted();
        Check.power(forms, 1, 2, 1, 2000);
        Check.put(forms, 2, "5");
        for (int r : new int[] {-1, 8}) {
            check.refused("it is named before WEIGHT", forms, Check.INDEX, () -> forms.kernel(r, 1));
            check.refused("also where there is none", forms, Check.INDEX, () -> forms.kernel(r, 2));
        }
    }

    /** Promise 11: "UnsupportedOperationException, WEIGHT." */
    private static void weight(Check check) {
        WeightCheck weight = new WeightCheck(check, "kernel", f -> f.kernel(2, 0), m -> m.kernel(2, 0));
        weight.ofAnyShape();
        weight.rowsMadeWhole();
        Counted forms = new Counted();
        Check.power(forms, 1, 2, 1, 1999);
        check.leaves("there is none", forms, 0, () -> forms.kernel(0, 1));
        Check.power(forms, 1, 2, 1, 2000);
        check.refused("there would be none", forms, Check.UNSUPPORTED, () -> forms.kernel(0, 1));
        check.refused("to its own", forms, Check.UNSUPPORTED, () -> forms.kernel(1, 1));
    }
}
