import java.math.BigInteger;

/** Promise 3: set. */
public final class SetTest {
    private static final int[] ONE_BY_TWO = {1, 2};

    public static void main(String[] args) {
        Check check = new Check();
        values(check);
        leastTerms(check);
        places(check);
        zeroBelow(check);
        lengthOfCommon(check);
        lengthOfTheCell(check);
        lengthOfTheOthers(check);
        limbs(check);
        limbsAreRoundedUp(check);
        whatWasThere(check);
        check.end("SetTest");
    }

    /** Promise 3: "The cell becomes u / l." */
    private static void values(Check check) {
        long[] numbers = {0, 1, -1, 2, -3, 6, 10, -12, 1L << 32, (1L << 32) - 1, -(1L << 31), 1L << 62,
            Long.MAX_VALUE, Long.MIN_VALUE, Long.MIN_VALUE + 1, 123456789012345L};
        Counted forms = new Counted();
        Model model = new Model();
        forms.make(2, 2, 3);
        model.make(2, 2, 3);
        int at = 0;
        for (long u : numbers) {
            for (long l : numbers) {
                if (l != 0) {
                    forms.set(2, at % 2, at % 3, u, l);
                    model.set(2, at % 2, at % 3, u, l);
                    check.register("set " + u + " / " + l, forms, 2, model.registers[2]);
                    at++;
                }
            }
        }
    }

    /** Promise 3: "The cell becomes u / l." Here, where u or l is below 0, or the least long there is. */
    private static void leastTerms(Check check) {
        Counted forms = new Counted();
        Check.put(forms, 0, "1/2 1/3; 1/4 1/6");
        forms.set(0, 1, 0, 0, -5);
        check.register("0 / -5", forms, 0, "1/2 1/3; 0 1/6");
        forms.set(0, 0, 0, 6, -4);
        check.register("6 / -4", forms, 0, "-3/2 1/3; 0 1/6");
        forms.set(0, 0, 0, -6, -4);
        check.register("-6 / -4", forms, 0, "3/2 1/3; 0 1/6");
        forms.set(0, 1, 1, Long.MIN_VALUE, -1);
        check.register("2^63", forms, 0, "3/2 1/3; 0 9223372036854775808");
        forms.set(0, 1, 1, -1, Long.MIN_VALUE);
        check.register("1 / 2^63", forms, 0, "3/2 1/3; 0 1/9223372036854775808");
        forms.set(0, 1, 1, Long.MIN_VALUE, Long.MIN_VALUE);
        check.register("-2^63 over itself", forms, 0, "3/2 1/3; 0 1");
        forms.set(0, 1, 1, Long.MAX_VALUE, Long.MIN_VALUE);
        check.register("least terms of both", forms, 0, "3/2 1/3; 0 -9223372036854775807/9223372036854775808");
        forms.set(0, 1, 1, Long.MIN_VALUE, 6);
        check.register("-2^63 / 6", forms, 0, "3/2 1/3; 0 -4611686018427387904/3");
        forms.set(0, 1, 1, 0, Long.MIN_VALUE);
        check.register("0 / -2^63", forms, 0, "3/2 1/3; 0 0");
    }

    /** Promise 3: "IndexOutOfBoundsException;" */
    private static void places(Check check) {
        Bounds.registers(check, "set", 1, (forms, r) -> forms.set(r[0], 0, 0, -9, 4));
        Bounds.cells(check, "set", (forms, r, row, column) -> forms.set(r, row, column, 3, 5));
        Counted forms = new Counted();
        Check.put(forms, 3, "1/2 5 7; -3 1/9 0");
        int[][] wrong = {{-1, 0, 0}, {8, 0, 0}, {3, -1, 0}, {3, 2, 0}, {3, 0, -1}, {3, 0, 3}, {0, 1, 0}, {0, 0, 1}};
        for (int[] p : wrong) {
            check.refused("it is named before l", forms, Check.INDEX, () -> forms.set(p[0], p[1], p[2], 1, 0));
        }
    }

    /** Promise 3: "IllegalArgumentException: l is 0;" */
    private static void zeroBelow(Check check) {
        Counted forms = new Counted();
        Check.put(forms, 3, "1/2 5 7; -3 1/9 0");
        for (long u : new long[] {1, 0, -1, Long.MIN_VALUE, Long.MAX_VALUE}) {
            check.refused(u + " / 0", forms, Check.ARGUMENT, () -> forms.set(3, 1, 2, u, 0));
        }
        forms.set(3, 1, 2, 1, 1);
        forms.set(3, 1, 1, 1, -1);
        check.register("1 and -1 are not 0", forms, 3, "1/2 5 7; -3 -1 1");
        Check.power(forms, 1, 1, 2, 3999);
        Check.place(forms, 0, ONE_BY_TWO, 0, 0, 1);
        check.refused("it is named before what is too long", forms, Check.ARGUMENT,
            () -> forms.set(0, 0, 1, Long.MAX_VALUE, 0));
    }

    /** Promise 3: "UnsupportedOperationException." Here, COMMON of 4000 and of more. */
    private static void lengthOfCommon(Check check) {
        Counted forms = new Counted();
        Check.power(forms, 1, 1, 2, 3998);
        Check.place(forms, 0, ONE_BY_TWO, 0, 0, 1);
        forms.set(0, 0, 1, 1, 3);
        check.register("3 by 2^3998 has 4000", forms, 0, "1/" + BigInteger.TWO.pow(3998) + " 1/3");
        check.refused("5 by 2^3998 has 4001", forms, Check.UNSUPPORTED, () -> forms.set(0, 0, 1, 1, 5));
        Check.power(forms, 1, 1, 2, 3999);
        Check.place(forms, 0, ONE_BY_TWO, 0, 0, 1);
        check.refused("3 by 2^3999 has 4001", forms, Check.UNSUPPORTED, () -> forms.set(0, 0, 1, 1, 3));
        check.refused("with a lower part below 0", forms, Check.UNSUPPORTED, () -> forms.set(0, 0, 1, 1, -3));
        forms.set(0, 0, 1, 5, 1L << 62);
        check.due("2^62 is in 2^3999", Check.cell(forms, 0, 0, 1).toString(), Ratio.of(5, 1L << 62).toString());
        longestLower(check);
    }

    /** The longest lower part that can be set is 2^63. */
    private static void longestLower(Check check) {
        int e = Check.longestPower(3, 4000 - 63);
        Counted forms = new Counted();
        Check.power(forms, 1, 1, 3, e);
        Check.place(forms, 0, ONE_BY_TWO, 0, 0, 1);
        forms.set(0, 0, 1, 1, Long.MIN_VALUE);
        check.due("3^" + e + " by 2^63", Check.cell(forms, 0, 0, 1).toString(), "-1/9223372036854775808");
        Check.power(forms, 1, 1, 3, e + 1);
        Check.place(forms, 0, ONE_BY_TWO, 0, 0, 1);
        check.refused("3^" + (e + 1) + " by 2^63", forms, Check.UNSUPPORTED,
            () -> forms.set(0, 0, 1, 1, Long.MIN_VALUE));
    }

    /** Promise 3: "UnsupportedOperationException." Here, the cell times COMMON of 4000 and of more. */
    private static void lengthOfTheCell(Check check) {
        Counted forms = new Counted();
        Check.power(forms, 1, 1, 2, 3999);
        Check.place(forms, 0, new int[] {2, 2}, 1, 0, 1);
        forms.set(0, 0, 1, 1, 1);
        forms.set(0, 0, 0, -1, 1);
        check.register("1 times COMMON has 4000", forms, 0, "-1 1; 1/" + BigInteger.TWO.pow(3999) + " 0");
        check.refused("2 times COMMON", forms, Check.UNSUPPORTED, () -> forms.set(0, 0, 1, 2, 1));
        check.refused("-2 times COMMON", forms, Check.UNSUPPORTED, () -> forms.set(0, 1, 1, -2, 1));
        check.refused("5/2 times COMMON", forms, Check.UNSUPPORTED, () -> forms.set(0, 1, 1, 5, 2));
        check.refused("2^63 times COMMON", forms, Check.UNSUPPORTED, () -> forms.set(0, 1, 1, Long.MIN_VALUE, 1));
        forms.set(0, 1, 1, -7, 4);
        check.due("7/4 times COMMON has 4000", Check.cell(forms, 0, 1, 1).toString(), "-7/4");
        Check.power(forms, 1, 1, 2, 3936);
        Check.place(forms, 0, ONE_BY_TWO, 0, 0, 1);
        forms.set(0, 0, 1, Long.MIN_VALUE, 1);
        check.due("2^63 times 2^3936", Check.cell(forms, 0, 0, 1).toString(), "-9223372036854775808");
        Check.power(forms, 1, 1, 2, 3937);
        Check.place(forms, 0, ONE_BY_TWO, 0, 0, 1);
        check.refused("2^63 times 2^3937", forms, Check.UNSUPPORTED, () -> forms.set(0, 0, 1, Long.MIN_VALUE, 1));
    }

    /** Promise 3: "UnsupportedOperationException." Here, what COMMON makes of the cells that stay. */
    private static void lengthOfTheOthers(Check check) {
        Counted forms = new Counted();
        Check.power(forms, 1, 2, 1, 3998);
        Check.place(forms, 0, ONE_BY_TWO, 0, 0, 1);
        forms.set(0, 0, 1, 1, 2);
        check.due("2^3998 by 2 has 4000", forms.length(0, 0, 1, true), 2);
        forms.set(0, 0, 1, 1, 3);
        check.register("2^3998 by 3 has 4000", forms, 0, BigInteger.TWO.pow(3998) + " 1/3");
        check.refused("2^3998 by 4", forms, Check.UNSUPPORTED, () -> forms.set(0, 0, 1, 1, 4));
        Check.power(forms, 1, -2, 1, 3999);
        Check.place(forms, 0, ONE_BY_TWO, 0, 0, 1);
        check.refused("2^3999 by 2", forms, Check.UNSUPPORTED, () -> forms.set(0, 0, 1, 1, 2));
        forms.set(0, 0, 1, Long.MIN_VALUE, Long.MIN_VALUE);
        check.register("2^3999 by 1", forms, 0, BigInteger.TWO.pow(3999).negate() + " 1");
    }

    /** Promise 3: "UnsupportedOperationException." Here, 20000 limbs and one more. */
    private static void limbs(Check check) {
        Counted forms = new Counted();
        Check.full(forms);
        check.refused("one limb more", forms, Check.UNSUPPORTED, () -> forms.set(0, 3, 10, 1, 1));
        check.refused("one limb more, below 0", forms, Check.UNSUPPORTED, () -> forms.set(0, 15, 10, -1, 1));
        check.refused("a half", forms, Check.UNSUPPORTED, () -> forms.set(0, 3, 10, 1, 2));
        forms.set(0, 3, 10, 0, -9);
        check.due("0 needs no limb", forms.sign(0, 3, 10), 0);
        forms.set(0, 2, 2, 7, 1);
        forms.set(0, 3, 10, -1, 1);
        check.due("124 limbs are free now", forms.sign(0, 3, 10), -1);
        check.due("the other", Check.cell(forms, 0, 2, 2).toString(), "7");
    }

    /** Promise 3: "UnsupportedOperationException." Here, the 33rd bit that needs a limb of its own. */
    private static void limbsAreRoundedUp(Check check) {
        Counted forms = new Counted();
        Check.full(forms);
        // The one cell that had 124 limbs has 123 now: 19999 together.
        Check.shorten(forms, 3935);
        check.due("a length of 3936", forms.length(0, 5, 9, false), 3936);
        check.refused("33 bits need two limbs", forms, Check.UNSUPPORTED, () -> forms.set(0, 3, 10, 1L << 32, 1));
        forms.set(0, 3, 10, (1L << 32) - 1, 1);
        check.due("32 bits need one", forms.length(0, 3, 10, false), 32);
        check.refused("no limb is left", forms, Check.UNSUPPORTED, () -> forms.set(0, 4, 10, 1, 1));
        Check.full(forms);
        Check.shorten(forms, 3936);
        check.due("a length of 3937", forms.length(0, 5, 9, false), 3937);
        check.refused("it has 124 limbs as before", forms, Check.UNSUPPORTED, () -> forms.set(0, 3, 10, 1, 1));
    }

    /** Promise 3: "The cell becomes u / l." So what it was counts no more, neither in COMMON nor in limbs. */
    private static void whatWasThere(Check check) {
        Counted forms = new Counted();
        Check.power(forms, 1, 1, 2, 3999);
        Check.place(forms, 0, ONE_BY_TWO, 0, 0, 1);
        forms.set(0, 0, 1, 5, 1L << 62);
        forms.set(0, 0, 0, 1, 3);
        check.register("the long one is gone", forms, 0, "1/3 5/4611686018427387904");
        forms.set(0, 0, 0, 3, 1);
        forms.set(0, 0, 1, -6, -2);
        check.due("COMMON is 1", forms.hermite(2, 0), 1);
        forms.set(1, 0, 0, 1, 3);
        check.register("COMMON was 2^3999, and is 3", forms, 1, "1/3");
        Check.power(forms, 1, 2, 1, 3999);
        forms.set(1, 0, 0, 1, 3);
        check.register("2^3999 by 3 is not asked for", forms, 1, "1/3");
        forms.set(1, 0, 0, 1, 5);
        check.register("nor is COMMON 15", forms, 1, "1/5");
        Check.full(forms);
        forms.set(0, 5, 9, Long.MAX_VALUE, 1);
        check.due("a cell of 124 limbs makes room", forms.length(0, 5, 9, false), 63);
    }
}
