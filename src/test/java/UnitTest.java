/** Promise 4: unit. */
public final class UnitTest {
    public static void main(String[] args) {
        Check check = new Check();
        everySide(check);
        wrongSides(check);
        registers(check);
        check.end("UnitTest");
    }

    /** Promise 4: "n rows and columns, 1 where they meet, else 0." */
    private static void everySide(Check check) {
        Counted forms = new Counted();
        for (int n = 1; n <= 16; n++) {
            forms.make(4, n, 17 - n);
            forms.set(4, 0, 0, 5, 3);
            forms.set(4, n - 1, 16 - n, 5, 7);
            forms.unit(4, n);
            check.register("unit " + n, forms, 4, Model.one(n));
        }
        forms.unit(0, 3);
        check.register("unit", forms, 0, "1 0 0; 0 1 0; 0 0 1");
        check.due("COMMON is 1 again", forms.hermite(1, 4), 16);
        Check.full(forms);
        forms.unit(0, 16);
        check.register("of 20000 limbs nothing is left", forms, 0, Model.one(16));
        forms.set(0, 15, 0, 1, 3);
        check.due("nor do they count", forms.sign(0, 15, 0), 1);
    }

    /** Promise 4: "IllegalArgumentException: n is not 1 .. 16." */
    private static void wrongSides(Check check) {
        Counted forms = new Counted();
        Check.put(forms, 0, "1/2 3; 4 -5/3");
        for (int n : new int[] {0, 17, -1, -16, 18, 256, Integer.MIN_VALUE, Integer.MAX_VALUE}) {
            check.refused("unit " + n, forms, Check.ARGUMENT, () -> forms.unit(0, n));
        }
        for (int n : new int[] {1, 16}) {
            check.due("unit " + n + " throws", Check.thrown(() -> forms.unit(0, n)), Check.NONE);
            check.register("unit " + n, forms, 0, Model.one(n));
        }
    }

    /** Promise 4: "IndexOutOfBoundsException (the register);" */
    private static void registers(Check check) {
        Bounds.registers(check, "unit", 1, (forms, r) -> forms.unit(r[0], 2));
        Counted forms = new Counted();
        for (int r : new int[] {-1, 8}) {
            check.refused("it is named before n", forms, Check.INDEX, () -> forms.unit(r, 0));
            check.refused("it is named before n", forms, Check.INDEX, () -> forms.unit(r, 17));
        }
    }
}
