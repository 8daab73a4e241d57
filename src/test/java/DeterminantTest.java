import java.math.BigInteger;

/** Promise 14: determinant. */
public final class DeterminantTest {
    public static void main(String[] args) {
        Check check = new Check();
        known(check);
        drawn(check);
        registers(check);
        squares(check);
        weight(check);
        length(check);
        onlyTheResultCounts(check);
        check.end("DeterminantTest");
    }

    /** Promise 14: "The determinant, as one cell." */
    private static void known(Check check) {
        known(check, "0", "0");
        known(check, "-7/3", "-7/3");
        known(check, "1 2; 3 4", "-2");
        known(check, "0 1; 1 0", "-1");
        known(check, "0 0 1; 0 1 0; 1 0 0", "-1");
        known(check, "0 1 0; 0 0 1; 1 0 0", "1");
        known(check, "1/2 1/3; 1/4 1/5", "1/60");
        known(check, "1 2 3; 4 5 6; 7 8 9", "0");
        known(check, "1 1/2 1/3; 1/2 1/3 1/4; 1/3 1/4 1/5", "1/2160");
        known(check, "2/3 0; 5 -3/2", "-1");
        known(check, "0 0; 0 0", "0");
        known(check, "6/5 0 0; 0 10/3 0; 0 0 1/4", "1");
    }

    private static void known(Check check, String from, String want) {
        Counted forms = new Counted();
        Check.put(forms, 0, from);
        Check.put(forms, 1, "1/7 2; 3 4");
        forms.determinant(1, 0);
        check.register("determinant of " + from, forms, 1, want);
        check.register("it stays", forms, 0, from);
        forms.determinant(0, 0);
        check.register("to its own", forms, 0, want);
    }

    private static void drawn(Check check) {
        Draws draws = new Draws(14);
        for (int round = 0; round < 200; round++) {
            int n = draws.upTo(round % 10 == 0 ? 16 : 6);
            compare(check, "drawn " + round, round % 2 == 0 ? draws.fractions(n, n, 5, round % 7)
                : Model.fractions(draws.ofRank(n, n, n, 15)));
        }
        compare(check, "16 at the bound", Model.fractions(draws.wholes(16, 16, 121, 4)));
        compare(check, "3 at the bound", Model.fractions(draws.wholes(3, 3, 664, 0)));
        greatest(check);
    }

    private static void compare(Check check, String what, Ratio[][] m) {
        Counted forms = new Counted();
        Check.put(forms, 0, m);
        if (Model.weight(m) > 2000) {
            check.refused(what, forms, Check.UNSUPPORTED, () -> forms.determinant(1, 0));
        } else {
            forms.determinant(1, 0);
            check.register(what, forms, 1, new Ratio[][] {{Model.determinantOf(m)}});
        }
    }

    /** Rows at right angles, all cells 2^121 - 1 or less that: no determinant within WEIGHT is greater. */
    private static void greatest(Check check) {
        BigInteger longest = BigInteger.TWO.pow(121).subtract(BigInteger.ONE);
        Counted forms = new Counted();
        Ratio[][] m = Model.zero(16, 16);
        for (int i = 0; i < 256; i++) {
            m[i / 16][i % 16] = Ratio.of(Integer.bitCount(i / 16 & i % 16) % 2 == 0 ? 1 : -1, 1);
        }
        Check.put(forms, 0, m);
        Check.power(forms, 1, 2, 1, 121);
        forms.unit(2, 1);
        forms.add(1, 1, 2, true);
        forms.make(3, 16, 16);
        for (int i = 0; i < 16; i++) {
            Check.place(forms, 4, new int[] {16, 16}, i, i, 1);
            forms.add(3, 3, 4, false);
        }
        forms.multiply(0, 0, 3);
        forms.determinant(5, 0);
        check.register("the greatest", forms, 5, longest.pow(16).shiftLeft(32).toString());
        check.due("its length", forms.length(5, 0, 0, false), 1968);
    }

    /** Promise 14: "IndexOutOfBoundsException;" */
    private static void registers(Check check) {
        Bounds.registers(check, "determinant", 2, (forms, r) -> forms.determinant(r[0], r[1]));
        Counted forms = new Counted();
        Check.power(forms, 1, 2, 1, 2000);
        forms.make(2, 1, 2);
        for (int r : new int[] {-1, 8}) {
            check.refused("it is named before WEIGHT", forms, Check.INDEX, () -> forms.determinant(r, 1));
            check.refused("it is named before squares", forms, Check.INDEX, () -> forms.determinant(r, 2));
        }
    }

    /** Promise 14: "IllegalArgumentException: a is not square;" */
    private static void squares(Check check) {
        Counted forms = new Counted();
        Check.put(forms, 0, "1 2 3; 3 4 5");
        check.refused("2 by 3", forms, Check.ARGUMENT, () -> forms.determinant(1, 0));
        forms.turn(0, 0);
        check.refused("3 by 2", forms, Check.ARGUMENT, () -> forms.determinant(0, 0));
        forms.make(2, 16, 15);
        check.refused("16 by 15, of 0", forms, Check.ARGUMENT, () -> forms.determinant(1, 2));
        Check.power(forms, 1, 2, 1, 2000);
        Check.fill(forms, 0, 2, 1, 1);
        check.refused("it is named before WEIGHT", forms, Check.ARGUMENT, () -> forms.determinant(2, 0));
        forms.unit(0, 16);
        forms.determinant(1, 0);
        check.register("16 by 16", forms, 1, "1");
    }

    /** Promise 14: "UnsupportedOperationException, WEIGHT." */
    private static void weight(Check check) {
        WeightCheck weight = new WeightCheck(check, "determinant",
            f -> {
                f.determinant(2, 0);
                return 0;
            },
            m -> {
                m.determinant(2, 0);
                return 0;
            });
        weight.ofSquares();
        weight.rowsMadeWhole();
        Counted forms = new Counted();
        Check.power(forms, 1, 2, 1, 2000);
        check.refused("to its own", forms, Check.UNSUPPORTED, () -> forms.determinant(1, 1));
        Check.fill(forms, 0, 2, 2, 1);
        check.refused("it would be 0", forms, Check.UNSUPPORTED, () -> forms.determinant(2, 0));
    }

    /** Promise 14: "UnsupportedOperationException, WEIGHT." Here, a lower part of 4000 and of more. */
    private static void length(Check check) {
        Counted forms = new Counted();
        Check.power(forms, 1, 1, 2, 2000);
        Check.place(forms, 3, new int[] {2, 2}, 0, 0, 1);
        Check.power(forms, 1, 1, 2, 1999);
        Check.place(forms, 4, new int[] {2, 2}, 1, 1, 1);
        forms.add(0, 3, 4, false);
        forms.determinant(2, 0);
        check.register("1 / 2^3999", forms, 2, "1/" + BigInteger.TWO.pow(3999));
        Check.power(forms, 1, 1, 2, 2000);
        Check.place(forms, 4, new int[] {2, 2}, 1, 1, 1);
        forms.add(0, 3, 4, false);
        check.refused("1 / 2^4000", forms, Check.UNSUPPORTED, () -> forms.determinant(2, 0));
        check.refused("to its own", forms, Check.UNSUPPORTED, () -> forms.determinant(0, 0));
        forms.determinant(2, 3);
        check.register("a row of 0", forms, 2, "0");
        Check.power(forms, 1, 1, 2, 3000);
        Check.fill(forms, 0, 16, 16, 1);
        forms.determinant(2, 0);
        check.register("equal rows", forms, 2, "0");
    }

    /** The numbers that make the rows whole may be longer together than the lower part of the result. */
    private static void onlyTheResultCounts(Check check) {
        Counted forms = new Counted();
        forms.make(0, 2, 2);
        for (int i = 0; i < 4; i++) {
            forms.set(0, i / 2, i % 2, 1, 1);
        }
        Check.power(forms, 1, 2, 1, 900);
        Check.place(forms, 2, new int[] {2, 2}, 1, 1, 1);
        forms.add(0, 0, 2, false);
        forms.determinant(2, 0);
        check.register("2^900", forms, 2, BigInteger.TWO.pow(900).toString());
        scaleRows(forms, 2450, 2449);
        forms.determinant(2, 3);
        check.register("2^900 / 2^4899", forms, 2, "1/" + BigInteger.TWO.pow(3999));
        scaleRows(forms, 2450, 2450);
        check.refused("2^900 / 2^4900", forms, Check.UNSUPPORTED, () -> forms.determinant(2, 3));
        Check.power(forms, 5, 1, 3, 600);
        Check.place(forms, 3, new int[] {2, 2}, 0, 1, 5);
        Check.power(forms, 5, 3, 1, 601);
        Check.place(forms, 4, new int[] {2, 2}, 1, 0, 5);
        forms.add(0, 3, 4, false);
        forms.determinant(2, 0);
        check.register("what is over in one row shortens the other", forms, 2, "-3");
    }

    /** Register 3 becomes register 0 with its rows over these powers of 2. */
    private static void scaleRows(Counted forms, int first, int second) {
        Check.power(forms, 1, 1, 2, first);
        Check.place(forms, 3, new int[] {2, 2}, 0, 0, 1);
        Check.power(forms, 1, 1, 2, second);
        Check.place(forms, 4, new int[] {2, 2}, 1, 1, 1);
        forms.add(3, 3, 4, false);
        forms.multiply(3, 3, 0);
    }
}
