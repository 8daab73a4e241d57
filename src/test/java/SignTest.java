/** Promise 18: sign. */
public final class SignTest {
    public static void main(String[] args) {
        Check check = new Check();
        signs(check);
        registersRowsAndColumns(check);
        check.end("SignTest");
    }

    /** Promise 18: "A cell's sign, -1, 0 or 1." */
    private static void signs(Check check) {
        Counted forms = new Counted();
        Check.put(forms, 5, "1/2 -3 0; -5/6 1 0");
        int[][] want = {{1, -1, 0}, {-1, 1, 0}};
        for (int i = 0; i < 2; i++) {
            for (int j = 0; j < 3; j++) {
                check.due("sign " + i + ", " + j, forms.sign(5, i, j), want[i][j]);
            }
        }
        long[][] cells = {{Long.MIN_VALUE, 3, -1}, {Long.MIN_VALUE, Long.MIN_VALUE, 1}, {Long.MIN_VALUE, -1, 1},
            {Long.MAX_VALUE, Long.MIN_VALUE, -1}, {4, -8, -1}, {-4, -8, 1}, {0, -8, 0}, {0, Long.MIN_VALUE, 0},
            {1L << 32, 1, 1}, {-(1L << 32), 1, -1}};
        for (long[] c : cells) {
            forms.set(5, 0, 0, c[0], c[1]);
            check.due(c[0] + " / " + c[1], (long) forms.sign(5, 0, 0), c[2]);
        }
        Check.power(forms, 0, -2, 1, 3999);
        check.due("-2^3999", forms.sign(0, 0, 0), -1);
        Check.power(forms, 0, -1, 2, 3999);
        check.due("-1 / 2^3999", forms.sign(0, 0, 0), -1);
        forms.add(0, 0, 0, true);
        check.due("less itself", forms.sign(0, 0, 0), 0);
    }

    /** Promise 18: "IndexOutOfBoundsException." */
    private static void registersRowsAndColumns(Check check) {
        Bounds.registers(check, "sign", 1, (forms, r) -> forms.sign(r[0], 0, 0));
        Bounds.cells(check, "sign", (forms, r, row, column) -> forms.sign(r, row, column));
    }
}
