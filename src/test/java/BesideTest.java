/** Promise 8: beside. */
public final class BesideTest {
    public static void main(String[] args) {
        Check check = new Check();
        ExactForms forms = new ExactForms();
        Check.put(forms, 0, "1/2 -3; 0 5/6");
        Check.put(forms, 1, "1/5; 7");
        forms.beside(2, 0, 1);
        check.register("beside", forms, 2, "1/2 -3 1/5; 0 5/6 7");
        forms.beside(3, 1, 0);
        check.register("the other way", forms, 3, "1/5 1/2 -3; 7 0 5/6");
        forms.beside(1, 1, 1);
        check.register("itself to itself", forms, 1, "1/5 1/5; 7 7");
        forms.beside(0, 1, 0);
        check.register("to the second", forms, 0, "1/5 1/5 1/2 -3; 7 7 0 5/6");
        forms.make(0, 4, 9);
        forms.make(1, 4, 7);
        forms.set(1, 3, 6, 2, 3);
        forms.beside(2, 0, 1);
        check.due("16 columns", forms.size(2, true), 16);
        check.due("the last", Check.cell(forms, 2, 3, 15).toString(), "2/3");
        wrong(check, forms);
        bounds(check, forms);
        check.end("BesideTest");
    }

    private static void wrong(Check check, ExactForms forms) {
        forms.make(0, 4, 9);
        forms.make(1, 4, 8);
        forms.make(2, 3, 9);
        check.refused("17 columns", forms, Check.UNSUPPORTED, () -> forms.beside(0, 0, 1));
        check.refused("not as many rows", forms, Check.ARGUMENT, () -> forms.beside(0, 1, 3));
        check.refused("not as many rows, and 18 columns", forms, Check.ARGUMENT, () -> forms.beside(0, 0, 2));
        check.refused("to", forms, Check.INDEX, () -> forms.beside(8, 0, 2));
        check.refused("a", forms, Check.INDEX, () -> forms.beside(0, -1, 2));
        check.refused("b", forms, Check.INDEX, () -> forms.beside(0, 2, 9));
    }

    private static void bounds(Check check, ExactForms forms) {
        Check.power(forms, 0, 1, 3, 1300);
        Check.power(forms, 1, 1, 2, 1939);
        forms.beside(2, 0, 1);
        check.due("COMMON of 4000", forms.length(2, 0, 1, true), 1940);
        check.due("the first", forms.length(2, 0, 0, true), 2061);
        Check.power(forms, 1, 1, 2, 1940);
        check.refused("COMMON of 4001", forms, Check.UNSUPPORTED, () -> forms.beside(3, 0, 1));
        Check.power(forms, 0, 1, 2, 3000);
        Check.power(forms, 1, 2, 1, 999);
        forms.beside(2, 0, 1);
        check.due("a cell times COMMON of 4000", forms.length(2, 0, 1, false), 1000);
        Check.power(forms, 1, -2, 1, 1000);
        check.refused("a cell times COMMON of 4001", forms, Check.UNSUPPORTED, () -> forms.beside(3, 0, 1));
        Check.full(forms);
        forms.make(2, 16, 5);
        forms.set(2, 15, 4, 1, 1);
        check.refused("20001 limbs", forms, Check.UNSUPPORTED, () -> forms.beside(3, 0, 2));
        forms.set(2, 15, 4, 0, 1);
        forms.beside(3, 0, 2);
        check.due("20000 limbs", forms.size(3, true), 16);
    }
}
