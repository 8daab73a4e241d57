/** Promise 8: beside. */
public final class BesideTest {
    public static void main(String[] args) {
        Check check = new Check();
        both(check);
        registers(check);
        rows(check);
        columns(check);
        lengthOfCommon(check);
        lengthOfCells(check);
        limbs(check);
        check.end("BesideTest");
    }

    /** Promise 8: "Both side by side: they have as many rows." */
    private static void both(Check check) {
        Counted forms = new Counted();
        Check.put(forms, 0, "1/2 -3; 0 5/6");
        Check.put(forms, 1, "1/5; 7");
        forms.beside(2, 0, 1);
        check.register("beside", forms, 2, "1/2 -3 1/5; 0 5/6 7");
        forms.beside(3, 1, 0);
        check.register("the other way", forms, 3, "1/5 1/2 -3; 7 0 5/6");
        forms.beside(1, 1, 1);
        check.register("itself to itself", forms, 1, "1/5 1/5; 7 7");
        forms.beside(0, 1, 0);
        check.register("to the second", forms, 0, "1/5 1/5 1/2 -3; 7 7 0 5/6");
        check.due("COMMON of whole cells", forms.hermite(5, 4), 0);
        forms.unit(4, 2);
        forms.beside(4, 4, 4);
        check.due("COMMON is 1", forms.hermite(5, 4), 2);
    }

    /** Promise 8: "IndexOutOfBoundsException;" */
    private static void registers(Check check) {
        Bounds.registers(check, "beside", 3, (forms, r) -> forms.beside(r[0], r[1], r[2]));
        Counted forms = new Counted();
        forms.make(1, 2, 16);
        for (int r : new int[] {-1, 8}) {
            check.refused("to is named before rows", forms, Check.INDEX, () -> forms.beside(r, 0, 1));
            check.refused("to is named before 32 columns", forms, Check.INDEX, () -> forms.beside(r, 1, 1));
        }
    }

    /** Promise 8: "IllegalArgumentException;" They have not as many rows. */
    private static void rows(Check check) {
        Counted forms = new Counted();
        forms.make(0, 4, 9);
        forms.make(1, 4, 7);
        forms.make(2, 3, 9);
        forms.make(3, 5, 1);
        check.refused("4 and 3", forms, Check.ARGUMENT, () -> forms.beside(5, 1, 2));
        check.refused("4 and 5", forms, Check.ARGUMENT, () -> forms.beside(0, 0, 3));
        check.refused("5 and 4", forms, Check.ARGUMENT, () -> forms.beside(3, 3, 0));
        check.refused("it is named before 18 columns", forms, Check.ARGUMENT, () -> forms.beside(5, 0, 2));
        forms.beside(5, 0, 1);
        check.due("4 and 4", forms.size(5, false), 4);
        Check.power(forms, 0, 1, 2, 3999);
        Check.power(forms, 3, 1, 3, 2000);
        Check.fill(forms, 1, 2, 1, 3);
        check.refused("it is named before what is too long", forms, Check.ARGUMENT, () -> forms.beside(5, 0, 1));
    }

    /** Promise 8: "UnsupportedOperationException." Here, 16 columns and more. */
    private static void columns(Check check) {
        for (int left = 1; left <= 16; left++) {
            Counted forms = new Counted();
            forms.make(0, 4, left);
            forms.set(0, 0, 0, -1, 2);
            forms.make(2, 4, 17 - left);
            forms.make(3, 4, 16);
            check.refused(left + " and " + (17 - left), forms, Check.UNSUPPORTED, () -> forms.beside(0, 0, 2));
            check.refused(left + " and 16", forms, Check.UNSUPPORTED, () -> forms.beside(5, 0, 3));
            check.refused("16 and " + left, forms, Check.UNSUPPORTED, () -> forms.beside(3, 3, 0));
            if (left < 16) {
                forms.make(1, 4, 16 - left);
                forms.set(1, 3, 15 - left, 2, 3);
                forms.beside(4, 0, 1);
                Ratio[][] want = Model.zero(4, 16);
                want[0][0] = Ratio.of(-1, 2);
                want[3][15] = Ratio.of(2, 3);
                check.register(left + " and " + (16 - left), forms, 4, want);
            }
        }
    }

    /** Promise 8: "UnsupportedOperationException." Here, COMMON of 4000 and of more. */
    private static void lengthOfCommon(Check check) {
        Counted forms = new Counted();
        Check.power(forms, 0, 1, 3, 1300);
        Check.power(forms, 1, 1, 2, 1939);
        forms.beside(2, 0, 1);
        check.due("COMMON of 4000", forms.length(2, 0, 1, true), 1940);
        check.due("the first", forms.length(2, 0, 0, true), 2061);
        Check.power(forms, 1, 1, 2, 1940);
        check.refused("COMMON of 4001", forms, Check.UNSUPPORTED, () -> forms.beside(3, 0, 1));
        check.refused("the other way", forms, Check.UNSUPPORTED, () -> forms.beside(0, 1, 0));
        Check.power(forms, 0, 1, 2, 3999);
        Check.power(forms, 1, 1, 2, 3998);
        forms.beside(2, 0, 1);
        check.due("one is in the other", forms.length(2, 0, 1, true), 3999);
    }

    /** Promise 8: "UnsupportedOperationException." Here, a cell times COMMON of 4000 and of more. */
    private static void lengthOfCells(Check check) {
        Counted forms = new Counted();
        Check.power(forms, 0, 1, 2, 3000);
        Check.power(forms, 1, -2, 1, 999);
        forms.beside(2, 0, 1);
        check.due("in the second", forms.length(2, 0, 1, false), 1000);
        forms.beside(2, 1, 0);
        check.due("in the first", forms.length(2, 0, 0, false), 1000);
        Check.power(forms, 1, -2, 1, 1000);
        check.refused("longer in the second", forms, Check.UNSUPPORTED, () -> forms.beside(3, 0, 1));
        check.refused("longer in the first", forms, Check.UNSUPPORTED, () -> forms.beside(1, 1, 0));
    }

    /** Promise 8: "UnsupportedOperationException." Here, 20000 limbs and one more. */
    private static void limbs(Check check) {
        Counted forms = new Counted();
        Check.full(forms);
        forms.make(2, 16, 5);
        forms.set(2, 15, 4, 1, 1);
        check.refused("20001 limbs", forms, Check.UNSUPPORTED, () -> forms.beside(3, 0, 2));
        check.refused("20001 limbs", forms, Check.UNSUPPORTED, () -> forms.beside(0, 2, 0));
        forms.set(2, 15, 4, 0, 1);
        forms.beside(3, 0, 2);
        check.due("20000 limbs", forms.size(3, true), 16);
        forms.part(4, 3, 0, 15, 0, 10);
        check.holds("the first is there", forms.same(4, 0));
        Check.fullOfFractions(forms);
        Check.place(forms, 2, new int[] {16, 2}, 0, 1, 1);
        check.refused("20001 limbs, of which COMMON has 125", forms, Check.UNSUPPORTED, () -> forms.beside(3, 0, 2));
        forms.make(2, 16, 2);
        forms.beside(3, 0, 2);
        check.due("20000 limbs, of which COMMON has 125", forms.size(3, true), 12);
    }
}
