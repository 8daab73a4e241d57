/** Promise 1: a new object. */
public final class NewObjectTest {
    public static void main(String[] args) {
        Check check = new Check();
        oneCell(check);
        nothingIsShared(check);
        check.end("NewObjectTest");
    }

    /** Promise 1: "All registers have one cell, 0." */
    private static void oneCell(Check check) {
        Counted forms = new Counted();
        for (int r = 0; r < 8; r++) {
            check.due("rows of " + r, forms.size(r, false), 1);
            check.due("columns of " + r, forms.size(r, true), 1);
            check.due("sign of " + r, forms.sign(r, 0, 0), 0);
            check.due("upper length of " + r, forms.length(r, 0, 0, false), 0);
            check.due("lower length of " + r, forms.length(r, 0, 0, true), 1);
            check.due("upper limb of " + r, forms.limb(r, 0, 0, false, 0), 0);
            check.due("lower limb of " + r, forms.limb(r, 0, 0, true, 0), 1);
            for (int s = 0; s < 8; s++) {
                check.holds("registers " + r + ", " + s, forms.same(r, s));
            }
            int here = r;
            check.refused("a second row of " + r, forms, Check.INDEX, () -> forms.sign(here, 1, 0));
            check.refused("a second column of " + r, forms, Check.INDEX, () -> forms.sign(here, 0, 1));
        }
        check.due("there is no register 8", Check.thrown(() -> forms.size(8, false)), Check.INDEX);
        check.due("there is no register -1", Check.thrown(() -> forms.size(-1, false)), Check.INDEX);
    }

    private static void nothingIsShared(Check check) {
        ExactForms first = new ExactForms();
        ExactForms other = new ExactForms();
        first.set(0, 0, 0, 5, 1);
        check.due("what one object has another has not", other.sign(0, 0, 0), 0);
        check.due("nor one made later", new ExactForms().sign(0, 0, 0), 0);
        check.due("it is there", first.sign(0, 0, 0), 1);
    }
}
