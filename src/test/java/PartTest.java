/** Promise 9: part. */
public final class PartTest {
    private static final String ALL = "1/2 -3 0 4; 5/6 1 -1/4 9; 7 8 1/3 -2";

    public static void main(String[] args) {
        Check check = new Check();
        ExactForms forms = new ExactForms();
        Check.put(forms, 0, ALL);
        forms.part(1, 0, 0, 2, 0, 3);
        check.holds("all", forms.same(0, 1));
        forms.part(1, 0, 1, 2, 1, 2);
        check.register("inside", forms, 1, "1 -1/4; 8 1/3");
        forms.part(1, 0, 2, 2, 3, 3);
        check.register("the last cell", forms, 1, "-2");
        forms.part(1, 0, 1, 1, 0, 3);
        check.register("a row", forms, 1, "5/6 1 -1/4 9");
        forms.part(1, 0, 0, 2, 1, 1);
        check.register("a column", forms, 1, "-3; 1; 8");
        check.due("COMMON is that of the part", forms.hermite(2, 1), 1);
        forms.part(0, 0, 0, 1, 2, 3);
        check.register("to its own", forms, 0, "0 4; -1/4 9");
        wrong(check);
        check.end("PartTest");
    }

    private static void wrong(Check check) {
        ExactForms forms = new ExactForms();
        Check.put(forms, 0, ALL);
        int[][] outside = {{-1, 2, 0, 0}, {0, 3, 0, 0}, {0, 0, -1, 0}, {0, 0, 0, 4}, {3, 3, 0, 0}, {0, 0, 4, 4},
            {3, 2, 0, 0}, {0, -1, 0, 0}, {0, 0, 4, 3}, {0, 0, 2, -1}, {2, 1, 0, 4}, {0, 9, 3, 2},
            {Integer.MIN_VALUE, Integer.MAX_VALUE, 0, 0}, {0, Integer.MAX_VALUE, 0, Integer.MAX_VALUE}};
        for (int[] p : outside) {
            check.refused("outside", forms, Check.INDEX, () -> forms.part(1, 0, p[0], p[1], p[2], p[3]));
        }
        check.refused("rows wrong way", forms, Check.ARGUMENT, () -> forms.part(1, 0, 2, 1, 0, 3));
        check.refused("columns wrong way", forms, Check.ARGUMENT, () -> forms.part(1, 0, 0, 2, 3, 0));
        check.refused("both", forms, Check.ARGUMENT, () -> forms.part(0, 0, 1, 0, 1, 0));
        check.refused("to", forms, Check.INDEX, () -> forms.part(8, 0, 2, 1, 0, 0));
        check.refused("a", forms, Check.INDEX, () -> forms.part(0, -1, 2, 1, 0, 0));
        check.refused("of another shape", forms, Check.INDEX, () -> forms.part(0, 1, 0, 1, 0, 0));
    }
}
