/** Promise 1: all registers have one cell, 0. */
public final class NewObjectTest {
    public static void main(String[] args) {
        Check check = new Check();
        ExactForms forms = new ExactForms();
        for (int r = 0; r < 8; r++) {
            check.due("rows of " + r, forms.size(r, false), 1);
            check.due("columns of " + r, forms.size(r, true), 1);
            check.due("sign of " + r, forms.sign(r, 0, 0), 0);
            check.due("upper length of " + r, forms.length(r, 0, 0, false), 0);
            check.due("lower length of " + r, forms.length(r, 0, 0, true), 1);
            check.due("upper limb of " + r, forms.limb(r, 0, 0, false, 0), 0);
            check.due("lower limb of " + r, forms.limb(r, 0, 0, true, 0), 1);
            for (int s = 0; s < 8; s++) {
                check.holds("registers " + r + ", " + s, forms.same(r, s));
            }
        }
        ExactForms other = new ExactForms();
        forms.set(0, 0, 0, 5, 1);
        check.register("objects share nothing", other, 0, "0");
        check.due("there is no register 8", Check.thrown(() -> forms.size(8, false)), Check.INDEX);
        check.due("there is no register -1", Check.thrown(() -> forms.size(-1, false)), Check.INDEX);
        check.end("NewObjectTest");
    }
}
