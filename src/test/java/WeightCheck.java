import java.math.BigInteger;

/** WEIGHT at its bound, the same for every call that names it. */
final class WeightCheck {
    /** A call on register 0, with its result to register 2. */
    interface Form {
        void work(ExactForms forms);
    }

    private WeightCheck() {
    }

    /** One cell of length b in a matrix else of 0 or 1: b may be at most 2000 / k - L(k). */
    static void square(Check check, String what, Form form) {
        int[][] most = {{1, 2000}, {2, 999}, {3, 664}, {4, 498}, {5, 397}, {7, 282}, {8, 247}, {9, 218}, {15, 129},
            {16, 121}};
        for (int[] m : most) {
            ExactForms forms = new ExactForms();
            Ratio[][] x = Model.one(m[0]);
            x[m[0] - 1][0] = Ratio.whole(BigInteger.ONE.shiftLeft(m[1] - 1).negate());
            Check.put(forms, 0, x);
            check.due(what + ", k " + m[0] + ", b " + m[1], Check.thrown(() -> form.work(forms)), Check.NONE);
            x[m[0] - 1][0] = Ratio.whole(BigInteger.ONE.shiftLeft(m[1]));
            Check.put(forms, 0, x);
            check.refused(what + ", k " + m[0] + ", b " + (m[1] + 1), forms, Check.UNSUPPORTED,
                () -> form.work(forms));
        }
    }

    /** k is the lesser of rows and columns, and zeros do not make it less. */
    static void oblong(Check check, String what, Form form) {
        ExactForms forms = new ExactForms();
        Ratio[][] x = Model.zero(3, 2);
        x[2][1] = Ratio.whole(BigInteger.ONE.shiftLeft(998));
        Check.put(forms, 0, x);
        check.due(what + ", 3 rows, 2 columns", Check.thrown(() -> form.work(forms)), Check.NONE);
        Check.put(forms, 0, Model.turned(x));
        check.due(what + ", 2 rows, 3 columns", Check.thrown(() -> form.work(forms)), Check.NONE);
        x[2][1] = Ratio.whole(BigInteger.ONE.shiftLeft(999));
        Check.put(forms, 0, x);
        check.refused(what + ", 3 rows, too long", forms, Check.UNSUPPORTED, () -> form.work(forms));
        Check.put(forms, 0, Model.turned(x));
        check.refused(what + ", 3 columns, too long", forms, Check.UNSUPPORTED, () -> form.work(forms));
        x = Model.zero(1, 16);
        x[0][15] = Ratio.whole(BigInteger.ONE.shiftLeft(1999));
        Check.put(forms, 0, x);
        check.due(what + ", one row", Check.thrown(() -> form.work(forms)), Check.NONE);
        Check.put(forms, 0, Model.turned(x));
        check.due(what + ", one column", Check.thrown(() -> form.work(forms)), Check.NONE);
    }

    /** Each row is made whole by itself: long lower parts weigh nothing where the row has nothing else. */
    static void fractions(Check check, String what, Form form) {
        ExactForms forms = new ExactForms();
        Check.power(forms, 1, 1, 2, 1998);
        Check.place(forms, 3, new int[] {2, 2}, 0, 0, 1);
        Check.power(forms, 1, 1, 3, 1200);
        Check.place(forms, 4, new int[] {2, 2}, 1, 1, 1);
        forms.add(0, 3, 4, false);
        check.due(what + ", each row is 1 and 0", Check.thrown(() -> form.work(forms)), Check.NONE);
        forms.add(0, 3, 4, false);
        forms.set(0, 0, 1, 1, 1L << 62);
        check.refused(what + ", 2^1936 beside 1", forms, Check.UNSUPPORTED, () -> form.work(forms));
        Check.power(forms, 1, 1, 2, 998);
        Check.place(forms, 0, new int[] {2, 2}, 1, 1, 1);
        forms.set(0, 1, 0, -1, 1);
        check.due(what + ", 2^998 beside 1", Check.thrown(() -> form.work(forms)), Check.NONE);
        Check.place(forms, 0, new int[] {2, 2}, 1, 1, 1);
        forms.set(0, 1, 0, -2, 1);
        check.refused(what + ", 2^999 beside 1", forms, Check.UNSUPPORTED, () -> form.work(forms));
    }
}
