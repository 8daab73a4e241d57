/** Promise 18: sign. */
public final class SignTest {
    public static void main(String[] args) {
        Check check = new Check();
        ExactForms forms = new ExactForms();
        Check.put(forms, 5, "1/2 -3 0; -5/6 1 0");
        int[][] want = {{1, -1, 0}, {-1, 1, 0}};
        for (int i = 0; i < 2; i++) {
            for (int j = 0; j < 3; j++) {
                check.due("sign " + i + ", " + j, forms.sign(5, i, j), want[i][j]);
            }
        }
        forms.set(5, 0, 0, Long.MIN_VALUE, 3);
        check.due("the least long", forms.sign(5, 0, 0), -1);
        forms.set(5, 0, 0, Long.MIN_VALUE, Long.MIN_VALUE);
        check.due("over itself", forms.sign(5, 0, 0), 1);
        forms.set(5, 0, 0, 4, -8);
        check.due("the lower part below 0", forms.sign(5, 0, 0), -1);
        forms.set(5, 0, 0, 0, -8);
        check.due("0 / -8", forms.sign(5, 0, 0), 0);
        int[][] places = {{-1, 0, 0}, {8, 0, 0}, {5, -1, 0}, {5, 2, 0}, {5, 0, -1}, {5, 0, 3}, {0, 0, 1}, {0, 1, 0},
            {5, Integer.MAX_VALUE, 0}, {5, 0, Integer.MIN_VALUE}};
        for (int[] p : places) {
            check.refused("sign there", forms, Check.INDEX, () -> forms.sign(p[0], p[1], p[2]));
        }
        check.end("SignTest");
    }
}
