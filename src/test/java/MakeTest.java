/** Promise 2: make. */
public final class MakeTest {
    public static void main(String[] args) {
        Check check = new Check();
        zeros(check);
        everyShape(check);
        wrongSides(check);
        registers(check);
        check.end("MakeTest");
    }

    /** Promise 2: "A matrix of 0." */
    private static void zeros(Check check) {
        Counted forms = new Counted();
        Check.put(forms, 0, "1/2 3; 4 -5/3");
        forms.make(0, 2, 2);
        check.register("of the same shape", forms, 0, "0 0; 0 0");
        check.due("COMMON is 1 again", forms.hermite(1, 0), 0);
        Check.put(forms, 0, "1/2 3; 4 -5/3");
        forms.make(0, 3, 1);
        check.register("of another shape", forms, 0, "0; 0; 0");
        forms.make(0, 2, 2);
        check.register("what was there is gone for good", forms, 0, "0 0; 0 0");
        Check.full(forms);
        forms.make(0, 16, 11);
        check.register("of 20000 limbs nothing is left", forms, 0, Model.zero(16, 11));
        forms.set(0, 15, 10, 1, 3);
        check.due("nor do they count", forms.sign(0, 15, 10), 1);
    }

    /** Promise 2: "IllegalArgumentException: rows or columns are not 1 .. 16." Here, those that are. */
    private static void everyShape(Check check) {
        for (int rows = 1; rows <= 16; rows++) {
            Counted forms = new Counted();
            for (int columns = 1; columns <= 16; columns++) {
                forms.make(7, rows, columns);
                check.due("rows", forms.size(7, false), rows);
                check.due("columns", forms.size(7, true), columns);
                check.register("make", forms, 7, Model.zero(rows, columns));
                forms.set(7, rows - 1, columns - 1, 3, 7);
                forms.set(7, 0, 0, -3, 5);
            }
        }
    }

    /** Promise 2: "IllegalArgumentException: rows or columns are not 1 .. 16." Here, those that are not. */
    private static void wrongSides(Check check) {
        Counted forms = new Counted();
        Check.put(forms, 0, "1/2 3; 4 -5/3");
        for (int side : new int[] {0, 17, -1, 18, 32, 256, 257, Integer.MIN_VALUE, Integer.MAX_VALUE}) {
            for (int other : new int[] {1, 2, 16}) {
                check.refused(side + " rows", forms, Check.ARGUMENT, () -> forms.make(0, side, other));
                check.refused(side + " columns", forms, Check.ARGUMENT, () -> forms.make(0, other, side));
            }
            check.refused(side + " of both", forms, Check.ARGUMENT, () -> forms.make(0, side, side));
        }
        check.refused("-1 by -1", forms, Check.ARGUMENT, () -> forms.make(0, -1, -1));
        check.refused("17 by 0", forms, Check.ARGUMENT, () -> forms.make(0, 17, 0));
    }

    /** Promise 2: "IndexOutOfBoundsException (the register);" */
    private static void registers(Check check) {
        Bounds.registers(check, "make", 1, (forms, r) -> forms.make(r[0], 2, 3));
        Bounds.registers(check, "make 16 by 16", 1, (forms, r) -> forms.make(r[0], 16, 16));
        Counted forms = new Counted();
        for (int r : new int[] {-1, 8}) {
            check.refused("it is named before the rows", forms, Check.INDEX, () -> forms.make(r, 0, 1));
            check.refused("and before the columns", forms, Check.INDEX, () -> forms.make(r, 1, 17));
        }
    }
}
