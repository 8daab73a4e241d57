/** Promise 21: same. */
public final class SameTest {
    public static void main(String[] args) {
        Check check = new Check();
        cells(check);
        shapes(check);
        longOnes(check);
        howTheyCameToBe(check);
        registers(check);
        check.end("SameTest");
    }

    /** Promise 21: "Whether two have the same shape and cells." Here, the cells. */
    private static void cells(Check check) {
        Counted forms = new Counted();
        String all = "1/2 -3 0; 5/6 1 -1/4";
        Check.put(forms, 0, all);
        Check.put(forms, 1, all);
        check.due("itself", forms.same(0, 0), true);
        check.due("cell by cell", forms.same(0, 1), true);
        String[] others = {"1/2 -3 0; 5/6 1 1/4", "1/2 -3 0; 5/6 1 -1/2", "1/2 3 0; 5/6 1 -1/4", "1/2 -3 1; 5/6 1 -1/4",
            "1 -3 0; 5/6 1 -1/4", "-1/2 -3 0; 5/6 1 -1/4", "1/2 -3 0; 5/6 1 0", "1/2 -3 0; 5/12 1 -1/4",
            "6 -36 0; 10 12 -3", "1/2 0 -3; 5/6 1 -1/4", "5/6 1 -1/4; 1/2 -3 0", "-1/2 3 0; -5/6 -1 1/4"};
        for (String other : others) {
            Check.put(forms, 1, other);
            check.due("same as " + other, forms.same(0, 1), false);
            check.due(other + " the other way", forms.same(1, 0), false);
        }
    }

    /** Promise 21: "Whether two have the same shape and cells." Here, the shape. */
    private static void shapes(Check check) {
        Counted forms = new Counted();
        Check.put(forms, 0, "1/2 -3 0; 5/6 1 -1/4");
        String[] others = {"1/2 -3; 5/6 1", "1/2 -3 0", "1/2 -3 0 0; 5/6 1 -1/4 0", "1/2 -3 0; 5/6 1 -1/4; 0 0 0",
            "1/2 5/6; -3 1; 0 -1/4", "1/2 -3; 0 5/6; 1 -1/4", "1/2 -3 0 5/6 1 -1/4", "0"};
        for (String other : others) {
            Check.put(forms, 1, other);
            check.due("same as " + other, forms.same(0, 1), false);
            check.due(other + " the other way", forms.same(1, 0), false);
        }
        forms.make(2, 2, 3);
        forms.make(3, 3, 2);
        check.due("0 of two shapes", forms.same(2, 3), false);
        forms.turn(3, 3);
        check.due("0 of one shape", forms.same(2, 3), true);
        int[][] sides = {{1, 1}, {1, 2}, {2, 1}, {1, 16}, {16, 1}, {16, 16}, {16, 15}, {15, 16}};
        for (int[] a : sides) {
            for (int[] b : sides) {
                forms.make(4, a[0], a[1]);
                forms.make(5, b[0], b[1]);
                check.due("0 of " + a[0] + " " + a[1] + " and " + b[0] + " " + b[1], forms.same(4, 5), a == b);
            }
        }
    }

    /** Promise 21: "Whether two have the same shape and cells." Here, cells that differ in one bit of 4000. */
    private static void longOnes(Check check) {
        Counted forms = new Counted();
        Check.power(forms, 0, 2, 1, 3999);
        for (int e : new int[] {0, 1, 31, 32, 63, 64, 2000, 3967, 3968, 3998}) {
            Check.power(forms, 1, 2, 1, e);
            forms.add(1, 0, 1, false);
            check.due("bit " + e, forms.same(0, 1), false);
            check.due("bit " + e, forms.same(1, 0), false);
        }
        forms.add(1, 0, 2, false);
        check.due("no bit", forms.same(0, 1), true);
        Check.power(forms, 1, -2, 1, 3999);
        check.due("the sign", forms.same(0, 1), false);
        Check.fullOfFractions(forms);
        forms.part(2, 0, 0, 15, 0, 9);
        check.due("20000 limbs", forms.same(0, 2), true);
        Check.place(forms, 3, new int[] {16, 10}, 15, 8, 1);
        forms.add(2, 2, 3, false);
        check.due("the least bit of the last cell", forms.same(0, 2), false);
    }

    /** It does not count what was there before, or by which calls it came. */
    private static void howTheyCameToBe(Check check) {
        Counted forms = new Counted();
        forms.make(2, 2, 3);
        forms.make(3, 2, 3);
        forms.set(2, 1, 1, 1, 3);
        check.due("1/3", forms.same(2, 3), false);
        forms.set(2, 1, 1, 0, 5);
        check.due("what was there before does not count", forms.same(2, 3), true);
        Check.put(forms, 0, "1/2 -3 0; 5/6 1 -1/4");
        forms.add(4, 0, 0, false);
        forms.add(4, 4, 0, true);
        check.due("a + a - a", forms.same(4, 0), true);
        forms.set(5, 0, 0, -3, -6);
        forms.set(6, 0, 0, 1, 2);
        check.due("-3 / -6 and 1 / 2", forms.same(5, 6), true);
    }

    /** Promise 21: "IndexOutOfBoundsException." */
    private static void registers(Check check) {
        Bounds.registers(check, "same", 2, (forms, r) -> forms.same(r[0], r[1]));
        Counted forms = new Counted();
        forms.make(1, 2, 2);
        for (int r : new int[] {-1, 8}) {
            check.refused("the first", forms, Check.INDEX, () -> forms.same(r, 1));
            check.refused("the second", forms, Check.INDEX, () -> forms.same(1, r));
            check.refused("both, though they are alike", forms, Check.INDEX, () -> forms.same(r, r));
        }
    }
}
