/** Promise 17: size. */
public final class SizeTest {
    public static void main(String[] args) {
        Check check = new Check();
        sizes(check);
        registers(check);
        check.end("SizeTest");
    }

    /** Promise 17: "How many rows (or columns)." */
    private static void sizes(Check check) {
        Counted forms = new Counted();
        for (int r = 0; r < 8; r++) {
            check.due("at first", forms.size(r, false) + forms.size(r, true), 2);
            forms.make(r, r + 1, 16 - r);
        }
        for (int r = 0; r < 8; r++) {
            check.due("rows of " + r, forms.size(r, false), r + 1);
            check.due("columns of " + r, forms.size(r, true), 16 - r);
        }
        forms.turn(0, 3);
        check.due("rows, turned", forms.size(0, false), 13);
        check.due("columns, turned", forms.size(0, true), 4);
        forms.make(1, 16, 1);
        check.due("the most rows", forms.size(1, false), 16);
        check.due("the fewest columns", forms.size(1, true), 1);
        forms.make(1, 1, 16);
        check.due("the fewest rows", forms.size(1, false), 1);
        check.due("the most columns", forms.size(1, true), 16);
        check.refused("refused", forms, Check.ARGUMENT, () -> forms.make(1, 17, 2));
        check.due("rows stay", forms.size(1, false), 1);
    }

    /** Promise 17: "IndexOutOfBoundsException." */
    private static void registers(Check check) {
        Bounds.registers(check, "rows", 1, (forms, r) -> forms.size(r[0], false));
        Bounds.registers(check, "columns", 1, (forms, r) -> forms.size(r[0], true));
    }
}
