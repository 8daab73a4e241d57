/** Promise 19: length. */
public final class LengthTest {
    public static void main(String[] args) {
        Check check = new Check();
        lengths(check);
        powers(check);
        fresh(check);
        registersRowsAndColumns(check);
        check.end("LengthTest");
    }

    /** Promise 19: "The LENGTH of a cell's upper (or lower) part." */
    private static void lengths(Check check) {
        Counted forms = new Counted();
        forms.make(1, 1, 2);
        forms.set(1, 0, 1, 1, 1);
        long[][] cells = {{0, 1, 0, 1}, {1, 1, 1, 1}, {-1, 1, 1, 1}, {2, 3, 2, 2}, {-6, 4, 2, 2}, {255, 256, 8, 9},
            {1L << 31, 1, 32, 1}, {(1L << 32) - 1, 1, 32, 1}, {1L << 32, 1, 33, 1}, {1, (1L << 32) - 1, 1, 32},
            {1, 1L << 32, 1, 33}, {Long.MAX_VALUE, 1, 63, 1}, {Long.MIN_VALUE, 1, 64, 1},
            {1, Long.MIN_VALUE, 1, 64}, {Long.MIN_VALUE, Long.MAX_VALUE, 64, 63},
            {Long.MIN_VALUE, Long.MIN_VALUE, 1, 1}, {0, -7, 0, 1}, {0, Long.MIN_VALUE, 0, 1}};
        for (long[] c : cells) {
            forms.set(1, 0, 0, c[0], c[1]);
            check.due("upper of " + c[0] + " / " + c[1], (long) forms.length(1, 0, 0, false), c[2]);
            check.due("lower of " + c[0] + " / " + c[1], (long) forms.length(1, 0, 0, true), c[3]);
            check.due("upper of the other", forms.length(1, 0, 1, false), 1);
            check.due("lower of the other", forms.length(1, 0, 1, true), 1);
        }
    }

    private static void powers(Check check) {
        for (int e = 0; e < 4000; e += 31) {
            Counted forms = new Counted();
            Check.power(forms, 0, -2, 1, e);
            check.due("2^" + e, forms.length(0, 0, 0, false), e + 1);
            check.due("2^" + e + ", lower", forms.length(0, 0, 0, true), 1);
            Check.power(forms, 0, 1, 2, e);
            check.due("1 / 2^" + e, forms.length(0, 0, 0, true), e + 1);
            check.due("1 / 2^" + e + ", upper", forms.length(0, 0, 0, false), 1);
        }
    }

    /** What was read before is not read again after a change, by whatever call. */
    private static void fresh(Check check) {
        Counted forms = new Counted();
        forms.set(0, 0, 0, 255, 16);
        check.due("255/16", forms.length(0, 0, 0, false), 8);
        forms.make(0, 1, 1);
        check.due("make", forms.length(0, 0, 0, false), 0);
        forms.unit(0, 1);
        check.due("unit", forms.length(0, 0, 0, false), 1);
        forms.add(0, 0, 0, false);
        check.due("add", forms.length(0, 0, 0, false), 2);
        forms.multiply(0, 0, 0);
        check.due("multiply", forms.length(0, 0, 0, false), 3);
        forms.invert(0, 0);
        check.due("invert", forms.length(0, 0, 0, true), 3);
        forms.echelon(0, 0);
        check.due("echelon", forms.length(0, 0, 0, true), 1);
        forms.set(1, 0, 0, 9, 1);
        forms.turn(0, 1);
        check.due("turn", forms.length(0, 0, 0, false), 4);
        forms.determinant(1, 0);
        check.due("another register", forms.length(1, 0, 0, false), 4);
        forms.set(2, 0, 0, 1, 1);
        forms.solve(1, 0, 2);
        check.due("solve", forms.length(1, 0, 0, true), 4);
        check.due("solve, upper", forms.length(1, 0, 0, false), 1);
        forms.kernel(0, 3);
        check.due("kernel", forms.length(0, 0, 0, false), 1);
        Check.put(forms, 0, "6 10");
        check.due("6", forms.length(0, 0, 0, false), 3);
        forms.smith(0, 0);
        check.due("smith", forms.length(0, 0, 0, false), 2);
        Check.put(forms, 0, "6; 9");
        check.due("6", forms.length(0, 0, 0, false), 3);
        forms.hermite(0, 0);
        check.due("hermite", forms.length(0, 0, 0, false), 2);
        forms.part(0, 0, 1, 1, 0, 0);
        check.due("part", forms.length(0, 0, 0, false), 0);
        forms.beside(0, 2, 0);
        check.due("beside", forms.length(0, 0, 0, false), 1);
    }

    /** Promise 19: "IndexOutOfBoundsException." */
    private static void registersRowsAndColumns(Check check) {
        Bounds.registers(check, "upper length", 1, (forms, r) -> forms.length(r[0], 0, 0, false));
        Bounds.registers(check, "lower length", 1, (forms, r) -> forms.length(r[0], 0, 0, true));
        Bounds.cells(check, "upper length", (forms, r, row, column) -> forms.length(r, row, column, false));
        Bounds.cells(check, "lower length", (forms, r, row, column) -> forms.length(r, row, column, true));
    }
}
