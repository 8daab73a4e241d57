/** Promise 9: part. */
public final class PartTest {
    private static final String ALL = "1/2 -3 0 4; 5/6 1 -1/4 9; 7 8 1/3 -2";

    public static void main(String[] args) {
        Check check = new Check();
        parts(check);
        everyPart(check);
        common(check);
        registers(check);
        outside(check);
        wrongWay(check);
        check.end("PartTest");
    }

    /** Promise 9: "Rows i to k, columns j to l." */
    private static void parts(Check check) {
        Counted forms = new Counted();
        Check.put(forms, 0, ALL);
        forms.part(1, 0, 0, 2, 0, 3);
        check.holds("all", forms.same(0, 1));
        forms.part(1, 0, 1, 2, 1, 2);
        check.register("inside", forms, 1, "1 -1/4; 8 1/3");
        forms.part(1, 0, 0, 0, 0, 0);
        check.register("the first cell", forms, 1, "1/2");
        forms.part(1, 0, 2, 2, 3, 3);
        check.register("the last cell", forms, 1, "-2");
        forms.part(1, 0, 1, 1, 0, 3);
        check.register("a row", forms, 1, "5/6 1 -1/4 9");
        forms.part(1, 0, 0, 2, 1, 1);
        check.register("a column", forms, 1, "-3; 1; 8");
        forms.part(0, 0, 0, 1, 2, 3);
        check.register("to its own", forms, 0, "0 4; -1/4 9");
        forms.make(2, 16, 16);
        forms.set(2, 15, 15, 1, 7);
        forms.part(3, 2, 0, 15, 0, 15);
        check.holds("16 by 16", forms.same(2, 3));
        forms.part(3, 2, 15, 15, 15, 15);
        check.register("the last of 16", forms, 3, "1/7");
    }

    /** Promise 9: "Rows i to k, columns j to l." Here, all there are of 3 rows and 4 columns. */
    private static void everyPart(Check check) {
        Ratio[][] all = Check.parse(ALL);
        for (int i = 0; i < 3; i++) {
            for (int k = i; k < 3; k++) {
                Counted forms = new Counted();
                Check.put(forms, 0, ALL);
                for (int j = 0; j < 4; j++) {
                    for (int l = j; l < 4; l++) {
                        Ratio[][] want = Model.zero(k - i + 1, l - j + 1);
                        for (int row = i; row <= k; row++) {
                            System.arraycopy(all[row], j, want[row - i], 0, l - j + 1);
                        }
                        forms.part(1, 0, i, k, j, l);
                        check.register("rows " + i + " " + k + ", columns " + j + " " + l, forms, 1, want);
                    }
                }
            }
        }
    }

    /** Promise 9: "Rows i to k, columns j to l." It never is too long, and COMMON is that of the part. */
    private static void common(Check check) {
        Counted forms = new Counted();
        Check.put(forms, 0, ALL);
        forms.part(1, 0, 0, 2, 1, 1);
        check.due("COMMON is 1", forms.hermite(2, 1), 1);
        Check.power(forms, 1, 1, 2, 3999);
        Check.place(forms, 0, new int[] {1, 3}, 0, 0, 1);
        forms.set(0, 0, 1, 1, 1);
        forms.part(2, 0, 0, 0, 1, 2);
        forms.set(2, 0, 1, 1, 3);
        check.register("COMMON is not 2^3999", forms, 2, "1 1/3");
        Check.fullOfFractions(forms);
        forms.part(2, 0, 0, 15, 0, 9);
        check.holds("20000 limbs", forms.same(0, 2));
        forms.part(0, 0, 15, 15, 9, 9);
        check.register("the one that is 0", forms, 0, "0");
    }

    /** Promise 9: "IndexOutOfBoundsException: also when there are no such rows or columns;" The registers. */
    private static void registers(Check check) {
        Bounds.registers(check, "part", 2, (forms, r) -> forms.part(r[0], r[1], 0, 0, 0, 0));
        Counted forms = new Counted();
        Check.put(forms, 0, ALL);
        for (int r : new int[] {-1, 8}) {
            check.refused("to is named before the wrong way", forms, Check.INDEX, () -> forms.part(r, 0, 2, 1, 0, 0));
            check.refused("a is named before the wrong way", forms, Check.INDEX, () -> forms.part(0, r, 0, 0, 2, 1));
        }
    }

    /** Promise 9: "IndexOutOfBoundsException: also when there are no such rows or columns;" */
    private static void outside(Check check) {
        Counted forms = new Counted();
        Check.put(forms, 0, ALL);
        int[] noRows = {-1, 3, 4, 15, 16, Integer.MIN_VALUE, Integer.MAX_VALUE};
        int[] noColumns = {-1, 4, 5, 15, 16, Integer.MIN_VALUE, Integer.MAX_VALUE};
        for (int n = 0; n < noRows.length; n++) {
            int row = noRows[n];
            int column = noColumns[n];
            check.refused("i " + row, forms, Check.INDEX, () -> forms.part(1, 0, row, 2, 0, 3));
            check.refused("k " + row, forms, Check.INDEX, () -> forms.part(1, 0, 0, row, 0, 3));
            check.refused("i and k " + row, forms, Check.INDEX, () -> forms.part(0, 0, row, row, 0, 3));
            check.refused("j " + column, forms, Check.INDEX, () -> forms.part(1, 0, 0, 2, column, 3));
            check.refused("l " + column, forms, Check.INDEX, () -> forms.part(1, 0, 0, 2, 0, column));
            check.refused("j and l " + column, forms, Check.INDEX, () -> forms.part(0, 0, 0, 2, column, column));
            check.refused("it is named before rows the wrong way", forms, Check.INDEX,
                () -> forms.part(1, 0, 2, 1, 0, column));
            check.refused("it is named before columns the wrong way", forms, Check.INDEX,
                () -> forms.part(1, 0, 0, row, 3, 2));
        }
        check.refused("all rows and more", forms, Check.INDEX,
            () -> forms.part(1, 0, Integer.MIN_VALUE, Integer.MAX_VALUE, 0, 0));
        check.refused("of another shape", forms, Check.INDEX, () -> forms.part(0, 1, 0, 1, 0, 0));
        check.refused("of another shape", forms, Check.INDEX, () -> forms.part(0, 1, 0, 0, 0, 1));
    }

    /** Promise 9: "IllegalArgumentException: i is above k, or j above l." */
    private static void wrongWay(Check check) {
        Counted forms = new Counted();
        Check.put(forms, 0, ALL);
        Check.put(forms, 1, "1/3 5");
        check.refused("i 2, k 1", forms, Check.ARGUMENT, () -> forms.part(1, 0, 2, 1, 0, 3));
        check.refused("i 2, k 0", forms, Check.ARGUMENT, () -> forms.part(1, 0, 2, 0, 3, 3));
        check.refused("i 1, k 0", forms, Check.ARGUMENT, () -> forms.part(0, 0, 1, 0, 0, 0));
        check.refused("j 3, l 2", forms, Check.ARGUMENT, () -> forms.part(1, 0, 0, 2, 3, 2));
        check.refused("j 3, l 0", forms, Check.ARGUMENT, () -> forms.part(1, 0, 1, 1, 3, 0));
        check.refused("j 1, l 0", forms, Check.ARGUMENT, () -> forms.part(0, 0, 0, 0, 1, 0));
        check.refused("both", forms, Check.ARGUMENT, () -> forms.part(0, 0, 1, 0, 1, 0));
        forms.part(1, 0, 2, 2, 1, 1);
        check.register("i is k, and j is l", forms, 1, "8");
    }
}
