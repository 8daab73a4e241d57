/** Promise 17: size. */
public final class SizeTest {
    public static void main(String[] args) {
        Check check = new Check();
        ExactForms forms = new ExactForms();
        for (int r = 0; r < 8; r++) {
            forms.make(r, r + 1, 16 - r);
        }
        for (int r = 0; r < 8; r++) {
            check.due("rows of " + r, forms.size(r, false), r + 1);
            check.due("columns of " + r, forms.size(r, true), 16 - r);
        }
        forms.turn(0, 3);
        check.due("rows, turned", forms.size(0, false), 13);
        check.due("columns, turned", forms.size(0, true), 4);
        for (int r : new int[] {-1, 8, Integer.MIN_VALUE, Integer.MAX_VALUE}) {
            check.refused("rows of " + r, forms, Check.INDEX, () -> forms.size(r, false));
            check.refused("columns of " + r, forms, Check.INDEX, () -> forms.size(r, true));
        }
        check.end("SizeTest");
    }
}
