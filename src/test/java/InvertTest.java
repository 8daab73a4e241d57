/** Promise 13: invert. */
public final class InvertTest {
    public static void main(String[] args) {
        Check check = new Check();
        known(check);
        none(check);
        drawn(check);
        wrong(check);
        weight(check);
        check.end("InvertTest");
    }

    private static void known(Check check) {
        known(check, "5", "1/5");
        known(check, "-2/3", "-3/2");
        known(check, "1 2; 3 4", "-2 1; 3/2 -1/2");
        known(check, "0 1; 1 0", "0 1; 1 0");
        known(check, "1/2 1/3; 1/4 1/5", "12 -20; -15 30");
        known(check, "0 0 2; 3 0 0; 0 1/4 0", "0 1/3 0; 0 0 4; 1/2 0 0");
        known(check, "1 1/2 1/3; 1/2 1/3 1/4; 1/3 1/4 1/5", "9 -36 30; -36 192 -180; 30 -180 180");
    }

    private static void known(Check check, String from, String want) {
        ExactForms forms = new ExactForms();
        Check.put(forms, 0, from);
        check.holds("invert " + from, forms.invert(1, 0));
        check.register("invert " + from, forms, 1, want);
        check.register("it stays", forms, 0, from);
        check.holds("to its own", forms.invert(0, 0));
        check.register("to its own", forms, 0, want);
    }

    private static void none(Check check) {
        for (String from : new String[] {"0", "1 2; 2 4", "0 0; 0 0", "1 2 3; 4 5 6; 7 8 9", "1/2 1/3; 1/4 1/6"}) {
            ExactForms forms = new ExactForms();
            Check.put(forms, 0, from);
            Check.put(forms, 1, "1/2 3");
            check.due("invert " + from, forms.invert(1, 0), false);
            check.register("nothing changes", forms, 1, "1/2 3");
            check.due("invert " + from, forms.invert(0, 0), false);
            check.register("nothing changes", forms, 0, from);
        }
    }

    private static void drawn(Check check) {
        Draws draws = new Draws(13);
        for (int round = 0; round < 150; round++) {
            int n = draws.upTo(round % 10 == 0 ? 12 : 5);
            compare(check, "drawn " + round, round % 2 == 0 ? draws.fractions(n, n, 4, round % 7)
                : Model.fractions(draws.ofRank(n, n, n, 15)));
        }
        compare(check, "16 at the bound", Model.fractions(draws.wholes(16, 16, 121, 0)));
        compare(check, "9 at the bound", Model.fractions(draws.wholes(9, 9, 218, 0)));
        compare(check, "2 at the bound", Model.fractions(draws.wholes(2, 2, 999, 0)));
        compare(check, "1 at the bound", Model.fractions(draws.wholes(1, 1, 2000, 0)));
    }

    private static void compare(Check check, String what, Ratio[][] m) {
        ExactForms forms = new ExactForms();
        Model model = new Model();
        Check.put(forms, 0, m);
        model.registers[0] = m;
        boolean found = forms.invert(1, 0);
        check.due(what, found, model.invert(1, 0));
        check.register(what, forms, 1, model.registers[1]);
        if (found) {
            forms.multiply(2, 0, 1);
            forms.unit(3, m.length);
            check.holds(what + ": times it is 1", forms.same(2, 3));
        }
    }

    private static void wrong(Check check) {
        ExactForms forms = new ExactForms();
        Check.put(forms, 0, "1 2; 3 4; 5 6");
        check.refused("not square", forms, Check.ARGUMENT, () -> forms.invert(1, 0));
        forms.turn(0, 0);
        check.refused("not square", forms, Check.ARGUMENT, () -> forms.invert(0, 0));
        check.refused("to", forms, Check.INDEX, () -> forms.invert(8, 0));
        check.refused("a", forms, Check.INDEX, () -> forms.invert(1, -1));
        Check.power(forms, 1, 2, 1, 2000);
        Check.fill(forms, 0, 1, 2, 1);
        check.refused("not square, too heavy", forms, Check.ARGUMENT, () -> forms.invert(2, 0));
    }

    private static void weight(Check check) {
        WeightCheck.square(check, "invert", forms -> forms.invert(2, 0));
        ExactForms forms = new ExactForms();
        Check.power(forms, 0, 1, 2, 1999);
        check.holds("the unit matrix is made whole as well", forms.invert(1, 0));
        check.due("2^1999", forms.length(1, 0, 0, false), 2000);
        Check.power(forms, 0, 1, 2, 2000);
        check.refused("2^2000 in the unit matrix", forms, Check.UNSUPPORTED, () -> forms.invert(1, 0));
        Check.power(forms, 3, 2, 1, 1500);
        Check.fill(forms, 0, 2, 2, 3);
        check.refused("there is none, but too heavy", forms, Check.UNSUPPORTED, () -> forms.invert(1, 0));
    }
}
