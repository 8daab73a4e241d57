/** Promise 21: same. */
public final class SameTest {
    public static void main(String[] args) {
        Check check = new Check();
        ExactForms forms = new ExactForms();
        Check.put(forms, 0, "1/2 -3 0; 5/6 1 -1/4");
        Check.put(forms, 1, "1/2 -3 0; 5/6 1 -1/4");
        check.due("itself", forms.same(0, 0), true);
        check.due("cell by cell", forms.same(0, 1), true);
        String[] others = {"1/2 -3 0; 5/6 1 1/4", "1/2 -3 0; 5/6 1 -1/2", "1/2 3 0; 5/6 1 -1/4", "1/2 -3 1; 5/6 1 -1/4",
            "1/2 -3; 5/6 1", "1/2 -3 0", "1/2 -3 0 0; 5/6 1 -1/4 0", "1/2 -3 0; 5/6 1 -1/4; 0 0 0",
            "1/2 5/6; -3 1; 0 -1/4", "0", "6 -36 0; 10 12 -3"};
        for (String other : others) {
            Check.put(forms, 1, other);
            check.due("same as " + other, forms.same(0, 1), false);
            check.due("same as " + other, forms.same(1, 0), false);
        }
        forms.make(2, 2, 3);
        forms.make(3, 3, 2);
        check.due("0 of two shapes", forms.same(2, 3), false);
        forms.turn(3, 3);
        check.due("0 of one shape", forms.same(2, 3), true);
        forms.set(2, 1, 1, 1, 3);
        forms.set(2, 1, 1, 0, 5);
        check.due("what was there before does not count", forms.same(2, 3), true);
        forms.add(4, 0, 0, false);
        forms.add(4, 4, 0, true);
        check.due("a + a - a", forms.same(4, 0), true);
        for (int r : new int[] {-1, 8, Integer.MIN_VALUE, Integer.MAX_VALUE}) {
            check.refused("first " + r, forms, Check.INDEX, () -> forms.same(r, 0));
            check.refused("second " + r, forms, Check.INDEX, () -> forms.same(0, r));
        }
        check.end("SameTest");
    }
}
