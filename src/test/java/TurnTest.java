import java.math.BigInteger;

/** Promise 7: turn. */
public final class TurnTest {
    public static void main(String[] args) {
        Check check = new Check();
        turned(check);
        neverTooLong(check);
        registers(check);
        check.end("TurnTest");
    }

    /** Promise 7: "Rows and columns exchanged." */
    private static void turned(Check check) {
        Counted forms = new Counted();
        Check.put(forms, 0, "1/2 -3 0; 5/6 1 -1/4");
        forms.turn(1, 0);
        check.register("turn", forms, 1, "1/2 5/6; -3 1; 0 -1/4");
        check.register("the other stays", forms, 0, "1/2 -3 0; 5/6 1 -1/4");
        forms.turn(0, 0);
        check.holds("to its own", forms.same(0, 1));
        forms.turn(0, 0);
        check.register("back", forms, 0, "1/2 -3 0; 5/6 1 -1/4");
        Check.put(forms, 2, "1 2; 3 4");
        forms.turn(2, 2);
        check.register("square", forms, 2, "1 3; 2 4");
        forms.make(3, 1, 16);
        forms.set(3, 0, 15, -7, 9);
        forms.turn(3, 3);
        check.due("rows", forms.size(3, false), 16);
        check.due("columns", forms.size(3, true), 1);
        check.due("last", Check.cell(forms, 3, 15, 0).toString(), "-7/9");
        forms.make(4, 16, 16);
        forms.set(4, 0, 15, 1, 2);
        forms.set(4, 14, 15, 3, 1);
        forms.turn(5, 4);
        Ratio[][] want = Model.zero(16, 16);
        want[15][0] = Ratio.of(1, 2);
        want[15][14] = Ratio.of(3, 1);
        check.register("16 by 16", forms, 5, want);
    }

    /** Promise 7: "IndexOutOfBoundsException." No other: a matrix that was there is never too long. */
    private static void neverTooLong(Check check) {
        Counted forms = new Counted();
        Check.full(forms);
        forms.turn(5, 0);
        check.due("11 rows", forms.size(5, false), 11);
        check.due("the short one", forms.length(5, 9, 5, false), 3968);
        forms.turn(5, 5);
        check.holds("20000 limbs", forms.same(5, 0));
        Check.fullOfFractions(forms);
        forms.turn(5, 0);
        forms.turn(6, 5);
        check.holds("20000 limbs and COMMON of 4000", forms.same(6, 0));
        check.due("COMMON stays", Check.cell(forms, 5, 0, 0).lower, BigInteger.TWO.pow(3999));
    }

    /** Promise 7: "IndexOutOfBoundsException." */
    private static void registers(Check check) {
        Bounds.registers(check, "turn", 2, (forms, r) -> forms.turn(r[0], r[1]));
    }
}
