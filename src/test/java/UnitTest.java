/** Promise 4: unit. */
public final class UnitTest {
    public static void main(String[] args) {
        Check check = new Check();
        ExactForms forms = new ExactForms();
        for (int n = 1; n <= 16; n++) {
            forms.make(4, n, 17 - n);
            forms.set(4, 0, 0, 5, 3);
            forms.unit(4, n);
            check.register("unit " + n, forms, 4, Model.one(n));
        }
        forms.unit(0, 3);
        check.register("unit", forms, 0, "1 0 0; 0 1 0; 0 0 1");
        for (int n : new int[] {0, -1, 17, Integer.MIN_VALUE, Integer.MAX_VALUE}) {
            check.refused("unit " + n, forms, Check.ARGUMENT, () -> forms.unit(0, n));
            check.refused("unit " + n + " in no register", forms, Check.INDEX, () -> forms.unit(-1, n));
        }
        check.refused("unit in 8", forms, Check.INDEX, () -> forms.unit(8, 2));
        check.end("UnitTest");
    }
}
