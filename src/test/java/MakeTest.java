/** Promise 2: make. */
public final class MakeTest {
    public static void main(String[] args) {
        Check check = new Check();
        ExactForms forms = new ExactForms();
        for (int rows = 1; rows <= 16; rows++) {
            for (int columns = 1; columns <= 16; columns++) {
                forms.make(7, rows, columns);
                check.due("rows", forms.size(7, false), rows);
                check.due("columns", forms.size(7, true), columns);
                check.register("make", forms, 7, Model.zero(rows, columns));
                forms.set(7, rows - 1, columns - 1, 3, 7);
            }
        }
        Check.put(forms, 0, "1/2 3; 4 -5/3");
        forms.make(0, 3, 1);
        check.register("what was there is gone", forms, 0, "0; 0; 0");
        forms.make(0, 2, 2);
        check.register("and stays gone", forms, 0, "0 0; 0 0");
        Check.put(forms, 0, "1/2 3; 4 -5/3");
        int[][] wrong = {{0, 1}, {1, 0}, {17, 1}, {1, 17}, {-1, 4}, {4, -1}, {Integer.MIN_VALUE, 2},
            {Integer.MAX_VALUE, 2}, {2, Integer.MAX_VALUE}, {0, 0}};
        for (int[] shape : wrong) {
            check.refused("make " + shape[0] + " " + shape[1], forms, Check.ARGUMENT,
                () -> forms.make(0, shape[0], shape[1]));
            check.refused("make in no register", forms, Check.INDEX, () -> forms.make(8, shape[0], shape[1]));
        }
        for (int r : new int[] {-1, 8, Integer.MIN_VALUE, Integer.MAX_VALUE}) {
            check.refused("make in " + r, forms, Check.INDEX, () -> forms.make(r, 1, 1));
        }
        check.end("MakeTest");
    }
}
