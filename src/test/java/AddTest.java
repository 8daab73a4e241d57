/** Promise 5: add. */
public final class AddTest {
    public static void main(String[] args) {
        Check check = new Check();
        sums(check);
        wrong(check);
        bounds(check);
        check.end("AddTest");
    }

    private static void sums(Check check) {
        ExactForms forms = new ExactForms();
        Check.put(forms, 0, "1/2 -3 0; 5/6 1 -1/4");
        Check.put(forms, 1, "1/3 3 7; 1/6 -2/5 1/4");
        forms.add(2, 0, 1, false);
        check.register("sum", forms, 2, "5/6 0 7; 1 3/5 0");
        forms.add(3, 0, 1, true);
        check.register("difference", forms, 3, "1/6 -6 -7; 2/3 7/5 -1/2");
        forms.add(4, 2, 1, true);
        check.holds("back again", forms.same(4, 0));
        forms.add(0, 0, 0, false);
        check.register("to its own", forms, 0, "1 -6 0; 5/3 2 -1/2");
        forms.add(1, 0, 1, true);
        check.register("to the second", forms, 1, "2/3 -9 -7; 3/2 12/5 -3/4");
        forms.add(1, 1, 1, true);
        check.register("nothing is left", forms, 1, "0 0 0; 0 0 0");
        Check.put(forms, 0, "1/2 1/3");
        Check.put(forms, 1, "1/2 2/3");
        forms.add(2, 0, 1, false);
        check.due("COMMON is 1 again", forms.hermite(3, 2), 1);
    }

    private static void wrong(Check check) {
        ExactForms forms = new ExactForms();
        Check.put(forms, 0, "1 2; 3 4");
        Check.put(forms, 1, "1 2 3; 3 4 5");
        Check.put(forms, 2, "1 2; 3 4; 5 6");
        check.refused("columns", forms, Check.ARGUMENT, () -> forms.add(0, 0, 1, false));
        check.refused("rows", forms, Check.ARGUMENT, () -> forms.add(0, 2, 0, true));
        check.refused("turned", forms, Check.ARGUMENT, () -> forms.add(0, 1, 2, true));
        check.refused("to", forms, Check.INDEX, () -> forms.add(8, 0, 1, false));
        check.refused("a", forms, Check.INDEX, () -> forms.add(0, -1, 1, false));
        check.refused("b", forms, Check.INDEX, () -> forms.add(0, 1, 8, false));
    }

    private static void bounds(Check check) {
        ExactForms forms = new ExactForms();
        Check.power(forms, 0, 2, 1, 3999);
        forms.unit(1, 1);
        forms.add(2, 0, 1, true);
        check.due("2^3999 - 1", forms.length(2, 0, 0, false), 3999);
        forms.add(3, 0, 2, false);
        check.due("2^4000 - 1", forms.length(3, 0, 0, false), 4000);
        check.refused("2^4000", forms, Check.UNSUPPORTED, () -> forms.add(4, 3, 1, false));
        check.refused("2^3999 twice", forms, Check.UNSUPPORTED, () -> forms.add(0, 0, 0, false));
        forms.add(4, 4, 3, true);
        check.due("1 - 2^4000", forms.sign(4, 0, 0), -1);
        check.refused("-2^4000", forms, Check.UNSUPPORTED, () -> forms.add(4, 4, 1, true));
        Check.power(forms, 0, 1, 3, 1300);
        Check.power(forms, 1, 1, 2, 2000);
        check.refused("COMMON of 2^2000 3^1300", forms, Check.UNSUPPORTED, () -> forms.add(2, 0, 1, false));
        Check.power(forms, 1, 1, 2, 1900);
        forms.add(2, 0, 1, false);
        check.due("COMMON of 2^1900 3^1300", forms.length(2, 0, 0, true), 3961);
        forms.add(2, 2, 1, true);
        check.holds("taken away again", forms.same(2, 0));
        Check.full(forms);
        forms.make(2, 16, 11);
        forms.set(2, 4, 10, 1, 1);
        check.refused("20001 limbs", forms, Check.UNSUPPORTED, () -> forms.add(0, 0, 2, false));
        forms.set(2, 4, 10, 0, 1);
        forms.add(3, 2, 0, true);
        check.due("20000 limbs", forms.sign(3, 0, 0), -1);
    }
}
