/** Promise 11: kernel. */
public final class KernelTest {
    public static void main(String[] args) {
        Check check = new Check();
        known(check);
        none(check);
        drawn(check);
        wrong(check);
        WeightCheck.square(check, "kernel", forms -> forms.kernel(2, 0));
        WeightCheck.oblong(check, "kernel", forms -> forms.kernel(2, 0));
        WeightCheck.fractions(check, "kernel", forms -> forms.kernel(2, 0));
        check.end("KernelTest");
    }

    private static void known(Check check) {
        known(check, "1 2 3; 2 4 6", 2, "1 0 -1/3; 0 1 -2/3");
        known(check, "1 1", 1, "1 -1");
        known(check, "0", 1, "1");
        known(check, "0 0; 0 0", 2, "1 0; 0 1");
        known(check, "0 1/2 0", 2, "1 0 0; 0 0 1");
        known(check, "1 2 3; 4 5 6; 7 8 9", 1, "1 -2 1");
        known(check, "1 0 0 5; 0 1 0 -1/2", 2, "1 -1/10 0 -1/5; 0 0 1 0");
        known(check, "0 0 3", 2, "1 0 0; 0 1 0");
    }

    private static void known(Check check, String from, int count, String want) {
        ExactForms forms = new ExactForms();
        Check.put(forms, 0, from);
        check.due("kernel of " + from, forms.kernel(1, 0), count);
        check.register("kernel of " + from, forms, 1, want);
        check.register("it stays", forms, 0, from);
        check.due("kernel of " + from, forms.kernel(0, 0), count);
        check.register("kernel to its own", forms, 0, want);
    }

    private static void none(Check check) {
        for (String from : new String[] {"5", "1 2; 3 4", "1; 0; 2", "1 2; 2 4; 0 1/7"}) {
            ExactForms forms = new ExactForms();
            Check.put(forms, 0, from);
            Check.put(forms, 1, "1/2 3");
            check.due("kernel of " + from, forms.kernel(1, 0), 0);
            check.register("nothing changes", forms, 1, "1/2 3");
            check.due("kernel of " + from, forms.kernel(0, 0), 0);
            check.register("nothing changes", forms, 0, from);
        }
    }

    private static void drawn(Check check) {
        Draws draws = new Draws(11);
        for (int round = 0; round < 200; round++) {
            int rows = draws.upTo(round % 10 == 0 ? 16 : 5);
            int columns = draws.upTo(round % 10 == 0 ? 16 : 7);
            Ratio[][] m = round % 2 == 0 ? draws.fractions(rows, columns, 4, round % 8)
                : Model.fractions(draws.ofRank(rows, columns, draws.upTo(3), 30));
            compare(check, "drawn " + round, m);
        }
        compare(check, "8 by 16 at the bound", Model.fractions(draws.wholes(8, 16, 247, 1)));
        compare(check, "15 by 16 at the bound", Model.fractions(draws.wholes(15, 16, 129, 0)));
        compare(check, "1 by 16 at the bound", Model.fractions(draws.wholes(1, 16, 2000, 0)));
    }

    private static void compare(Check check, String what, Ratio[][] m) {
        ExactForms forms = new ExactForms();
        Model model = new Model();
        Check.put(forms, 0, m);
        model.registers[0] = m;
        int count = forms.kernel(1, 0);
        check.due(what, count, model.kernel(1, 0));
        check.register(what, forms, 1, model.registers[1]);
        if (count > 0) {
            forms.turn(2, 1);
            forms.multiply(2, 0, 2);
            forms.make(3, m.length, count);
            check.holds(what + ": a x' = 0", forms.same(2, 3));
        }
    }

    private static void wrong(Check check) {
        ExactForms forms = new ExactForms();
        Check.put(forms, 0, "1 2; 3 4");
        check.refused("to", forms, Check.INDEX, () -> forms.kernel(8, 0));
        check.refused("a", forms, Check.INDEX, () -> forms.kernel(0, 8));
        Check.power(forms, 1, 2, 1, 2000);
        check.refused("too heavy, though there is none", forms, Check.UNSUPPORTED, () -> forms.kernel(0, 1));
        check.refused("no register, too heavy", forms, Check.INDEX, () -> forms.kernel(-1, 1));
    }
}
