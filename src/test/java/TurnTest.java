/** Promise 7: turn. */
public final class TurnTest {
    public static void main(String[] args) {
        Check check = new Check();
        ExactForms forms = new ExactForms();
        Check.put(forms, 0, "1/2 -3 0; 5/6 1 -1/4");
        forms.turn(1, 0);
        check.register("turn", forms, 1, "1/2 5/6; -3 1; 0 -1/4");
        check.register("the other stays", forms, 0, "1/2 -3 0; 5/6 1 -1/4");
        forms.turn(0, 0);
        check.holds("to its own", forms.same(0, 1));
        forms.turn(0, 0);
        check.register("back", forms, 0, "1/2 -3 0; 5/6 1 -1/4");
        Check.put(forms, 2, "1 2; 3 4");
        forms.turn(2, 2);
        check.register("square", forms, 2, "1 3; 2 4");
        forms.make(3, 1, 16);
        forms.set(3, 0, 15, -7, 9);
        forms.turn(3, 3);
        check.due("rows", forms.size(3, false), 16);
        check.due("columns", forms.size(3, true), 1);
        check.due("last", Check.cell(forms, 3, 15, 0).toString(), "-7/9");
        check.refused("to", forms, Check.INDEX, () -> forms.turn(8, 0));
        check.refused("a", forms, Check.INDEX, () -> forms.turn(0, -1));
        Check.full(forms);
        forms.turn(5, 0);
        forms.turn(5, 5);
        check.holds("20000 limbs", forms.same(5, 0));
        check.end("TurnTest");
    }
}
