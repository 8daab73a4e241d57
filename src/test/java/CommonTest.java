import java.math.BigInteger;

/** Terms: COMMON, and how long it and the cells may be. */
public final class CommonTest {
    private static final int[] ONE_BY_TWO = {1, 2};

    public static void main(String[] args) {
        Check check = new Check();
        leastOfAll(check);
        leastOfResults(check);
        lengthOfCommon(check);
        lengthOfCells(check);
        lengthOfParts(check);
        limbs(check);
        limbsOfCommon(check);
        limbsRoundedUp(check);
        everyRegisterFull(check);
        check.end("CommonTest");
    }

    /** Terms: "COMMON of a matrix is the least number above 0 that makes all its cells whole;" */
    private static void leastOfAll(Check check) {
        Counted forms = new Counted();
        Check.power(forms, 1, 1, 2, 3999);
        Check.power(forms, 2, 1, 2, 3998);
        forms.beside(0, 1, 2);
        forms.beside(0, 0, 1);
        check.due("2^3999 for both, not their product", forms.length(0, 0, 1, true), 3999);
        forms.set(0, 0, 0, 1, 1);
        check.due("1 by 2^3999 has 4000", forms.sign(0, 0, 0), 1);
        check.refused("2 by 2^3999", forms, Check.UNSUPPORTED, () -> forms.set(0, 0, 0, 2, 1));
        forms.set(0, 0, 2, 0, 1);
        forms.set(0, 0, 0, 2, 1);
        check.due("2 by 2^3998, as 1 / 2^3999 is gone", forms.sign(0, 0, 0), 1);
        check.refused("4 by 2^3998", forms, Check.UNSUPPORTED, () -> forms.set(0, 0, 0, 4, 1));
    }

    /** Terms: "COMMON of a matrix is the least number above 0 that makes all its cells whole;" Of each call. */
    private static void leastOfResults(Check check) {
        Counted forms = new Counted();
        Check.put(forms, 0, "1/2 1/2; 1/2 3/2");
        check.refused("halves", forms, Check.ARGUMENT, () -> forms.hermite(1, 0));
        forms.add(1, 0, 0, false);
        check.due("add", forms.hermite(1, 1), 2);
        Check.put(forms, 2, "2 0; 0 4");
        forms.multiply(1, 0, 2);
        check.due("multiply", forms.smith(1, 1), 2);
        Check.put(forms, 3, "1/3 1 2");
        forms.part(1, 3, 0, 0, 1, 2);
        check.due("part", forms.hermite(1, 1), 1);
        forms.turn(1, 2);
        check.due("turn", forms.hermite(1, 1), 2);
        forms.echelon(1, 0);
        check.due("echelon", forms.hermite(1, 1), 2);
        Check.put(forms, 3, "1/3 -1/3");
        forms.kernel(1, 3);
        check.due("kernel", forms.hermite(1, 1), 1);
        Check.put(forms, 3, "1/3");
        Check.put(forms, 4, "2/3 5");
        forms.solve(1, 3, 4);
        check.due("solve", forms.hermite(1, 1), 1);
        forms.invert(1, 3);
        check.due("invert", forms.hermite(1, 1), 1);
        Check.put(forms, 3, "1/2 1; 1 6");
        forms.determinant(1, 3);
        check.due("determinant", forms.hermite(1, 1), 1);
        forms.set(3, 0, 0, 8, -4);
        check.due("set", forms.hermite(1, 3), 2);
        forms.unit(0, 2);
        check.due("unit", forms.hermite(1, 0), 2);
        Check.put(forms, 0, "1/2");
        forms.make(0, 1, 1);
        check.due("make", forms.hermite(1, 0), 0);
        Check.put(forms, 0, "1/2");
        forms.beside(0, 0, 5);
        check.refused("beside", forms, Check.ARGUMENT, () -> forms.hermite(1, 0));
        forms.part(0, 0, 0, 0, 1, 1);
        check.due("its part of 0", forms.hermite(1, 0), 0);
    }

    /** Terms: "COMMON, and each cell times COMMON, have a length of at most 4000," Here, COMMON. */
    private static void lengthOfCommon(Check check) {
        Counted forms = new Counted();
        Check.power(forms, 0, 1, 2, 3998);
        Check.put(forms, 1, "1/3");
        forms.beside(2, 0, 1);
        check.due("3 by 2^3998", forms.size(2, true), 2);
        forms.add(3, 0, 1, false);
        check.due("in one cell", forms.length(3, 0, 0, true), 4000);
        Check.put(forms, 1, "1/2");
        forms.multiply(4, 0, 1);
        check.due("2^3999", forms.length(4, 0, 0, true), 4000);
        check.refused("2^4000", forms, Check.UNSUPPORTED, () -> forms.multiply(4, 4, 1));
        Check.put(forms, 1, "1/5");
        check.refused("5 by 2^3998, side by side", forms, Check.UNSUPPORTED, () -> forms.beside(2, 0, 1));
        check.refused("5 by 2^3998, in one cell", forms, Check.UNSUPPORTED, () -> forms.add(3, 0, 1, true));
        check.refused("5 by 2^3998, as product", forms, Check.UNSUPPORTED, () -> forms.multiply(3, 0, 1));
    }

    /** Terms: "COMMON, and each cell times COMMON, have a length of at most 4000," Here, the cells. */
    private static void lengthOfCells(Check check) {
        Counted forms = new Counted();
        Check.power(forms, 0, 1, 2, 2000);
        Check.power(forms, 1, 2, 1, 1999);
        forms.beside(2, 0, 1);
        check.due("2^1999 by 2^2000", forms.length(2, 0, 1, false), 2000);
        forms.add(3, 2, 2, false);
        check.due("2^2000 by 2^1999", forms.length(3, 0, 1, false), 2001);
        Check.put(forms, 3, "3 0; 0 3");
        check.refused("3 by 2^1999 by 2^2000", forms, Check.UNSUPPORTED, () -> forms.multiply(2, 2, 3));
        Check.put(forms, 3, "1 2; 0 1");
        forms.multiply(4, 2, 3);
        check.due("2^1999 + 1 / 2^1999", forms.length(4, 0, 1, true), 2000);
        Check.power(forms, 1, 2, 1, 2000);
        check.refused("2^2000 by 2^2000", forms, Check.UNSUPPORTED, () -> forms.beside(2, 0, 1));
        check.refused("in one cell, 2^4000 + 1", forms, Check.UNSUPPORTED, () -> forms.add(2, 0, 1, false));
        forms.add(2, 1, 0, true);
        check.due("in one cell, 2^4000 - 1", forms.length(2, 0, 0, false), 4000);
        Check.power(forms, 1, -2, 1, 1999);
        forms.add(2, 1, 0, true);
        check.due("-2^1999 - 1 / 2^2000", forms.length(2, 0, 0, false), 4000);
    }

    /** A cell alone may be longer than it could be beside others. */
    private static void lengthOfParts(Check check) {
        Counted forms = new Counted();
        Check.power(forms, 1, 2, 1, 3999);
        Check.place(forms, 0, ONE_BY_TWO, 0, 0, 1);
        check.refused("2^3999 beside a half", forms, Check.UNSUPPORTED, () -> forms.set(0, 0, 1, 1, 2));
        forms.part(0, 0, 0, 0, 1, 1);
        forms.set(0, 0, 0, 1, 2);
        check.register("a half alone", forms, 0, "1/2");
    }

    /** Terms: "and COMMON and all these cells together at most 20000 LIMBS (32 bits each, each length rounded up)." */
    private static void limbs(Check check) {
        Counted forms = new Counted();
        Check.full(forms);
        check.due("159 cells of 125 limbs", forms.length(0, 15, 9, false), 4000);
        check.due("one of 124", forms.length(0, 5, 9, false), 3968);
        check.due("none for 0", forms.length(0, 0, 10, false), 0);
        check.refused("one more", forms, Check.UNSUPPORTED, () -> forms.set(0, 0, 10, 1, 1));
        Check.power(forms, 2, 2, 1, 3967);
        Check.place(forms, 3, new int[] {16, 11}, 5, 9, 2);
        forms.add(4, 0, 3, true);
        check.due("124 fewer", forms.sign(4, 5, 9), 0);
        forms.set(4, 0, 10, 1, 1);
        check.due("now one more is well", forms.sign(4, 0, 10), 1);
        forms.add(4, 4, 0, true);
        check.due("what is gone makes room", forms.sign(4, 0, 0), 0);
        Check.place(forms, 3, new int[] {16, 11}, 5, 9, 2);
        check.refused("2^3967 once more needs a limb more", forms, Check.UNSUPPORTED, () -> forms.add(5, 0, 3, false));
    }

    /** Terms: "and COMMON and all these cells together at most 20000 LIMBS (32 bits each, each length rounded up)." */
    private static void limbsOfCommon(Check check) {
        Counted forms = new Counted();
        Check.fullOfFractions(forms);
        check.register("the last is 0", forms, 1, "1/" + BigInteger.TWO.pow(3999));
        check.due("125 limbs for COMMON", forms.length(0, 0, 0, true), 4000);
        Check.place(forms, 5, new int[] {16, 10}, 15, 9, 1);
        check.refused("one more limb", forms, Check.UNSUPPORTED, () -> forms.add(0, 0, 5, false));
        forms.part(2, 0, 0, 15, 0, 8);
        forms.make(3, 16, 1);
        forms.beside(2, 2, 3);
        check.due("without the last column", forms.size(2, true), 10);
    }

    /** Terms: "and COMMON and all these cells together at most 20000 LIMBS (32 bits each, each length rounded up)." */
    private static void limbsRoundedUp(Check check) {
        Counted forms = new Counted();
        // 255 cells of 2496 bits have 78 limbs each: 19890, with COMMON 19891, and 109 are left.
        Check.power(forms, 1, 2, 1, 2495);
        Check.fill(forms, 0, 16, 16, 1);
        Check.place(forms, 2, new int[] {16, 16}, 15, 15, 1);
        forms.add(0, 0, 2, true);
        check.due("the last is 0", forms.sign(0, 15, 15), 0);
        Check.power(forms, 1, 2, 1, 109 * 32 - 1);
        Check.place(forms, 2, new int[] {16, 16}, 15, 15, 1);
        forms.add(3, 0, 2, true);
        check.due("109 limbs", forms.length(3, 15, 15, false), 109 * 32);
        Check.power(forms, 1, 2, 1, 109 * 32);
        Check.place(forms, 2, new int[] {16, 16}, 15, 15, 1);
        check.refused("109 limbs and one bit", forms, Check.UNSUPPORTED, () -> forms.add(3, 0, 2, true));
        Check.power(forms, 1, 2, 1, 2496);
        check.refused("255 cells with one bit more", forms, Check.UNSUPPORTED, 6,
            () -> Check.fill(forms, 0, 16, 16, 1));
    }

    /** The bounds are those of each register by itself. */
    private static void everyRegisterFull(Check check) {
        Counted forms = new Counted();
        Check.fullOfFractions(forms);
        for (int r = 1; r < 8; r++) {
            forms.part(r, 0, 0, 15, 0, 9);
        }
        for (int r = 1; r < 8; r++) {
            check.holds("register " + r, forms.same(r, 0));
        }
        forms.set(3, 15, 9, 0, 1);
        check.refused("one limb more", forms, Check.UNSUPPORTED, () -> forms.set(3, 15, 9, 1, 1L << 62));
        for (int r = 1; r < 8; r++) {
            check.holds("register " + r + " stays", forms.same(r, 0));
        }
    }
}
