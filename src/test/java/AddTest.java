import java.math.BigInteger;

/** Promise 5: add. */
public final class AddTest {
    public static void main(String[] args) {
        Check check = new Check();
        sums(check);
        sixteen(check);
        registers(check);
        shapes(check);
        lengthOfUpper(check);
        lengthOfCommon(check);
        lengthOfCells(check);
        onlyTheResultCounts(check);
        limbs(check);
        limbsOfCommon(check);
        check.end("AddTest");
    }

    /** Promise 5: "a + b, or a - b, of one shape." */
    private static void sums(Check check) {
        Counted forms = new Counted();
        Check.put(forms, 0, "1/2 -3 0; 5/6 1 -1/4");
        Check.put(forms, 1, "1/3 3 7; 1/6 -2/5 1/4");
        forms.add(2, 0, 1, false);
        check.register("sum", forms, 2, "5/6 0 7; 1 3/5 0");
        forms.add(3, 0, 1, true);
        check.register("difference", forms, 3, "1/6 -6 -7; 2/3 7/5 -1/2");
        forms.add(3, 1, 0, true);
        check.register("the other way", forms, 3, "-1/6 6 7; -2/3 -7/5 1/2");
        forms.add(4, 2, 1, true);
        check.holds("back again", forms.same(4, 0));
        forms.add(0, 0, 0, false);
        check.register("to its own", forms, 0, "1 -6 0; 5/3 2 -1/2");
        forms.add(1, 0, 1, true);
        check.register("to the second", forms, 1, "2/3 -9 -7; 3/2 12/5 -3/4");
        forms.add(1, 1, 1, true);
        check.register("nothing is left", forms, 1, "0 0 0; 0 0 0");
        Check.put(forms, 0, "1/2 1/3");
        Check.put(forms, 1, "1/2 2/3");
        forms.add(2, 0, 1, false);
        check.due("COMMON is 1 again", forms.hermite(3, 2), 1);
    }

    private static void sixteen(Check check) {
        Counted forms = new Counted();
        forms.unit(0, 16);
        forms.set(0, 0, 15, 1, 3);
        forms.set(0, 15, 0, -1, 2);
        forms.turn(1, 0);
        forms.add(2, 0, 1, false);
        Ratio[][] want = Model.zero(16, 16);
        for (int i = 0; i < 16; i++) {
            want[i][i] = Ratio.of(2, 1);
        }
        want[0][15] = Ratio.of(-1, 6);
        want[15][0] = Ratio.of(-1, 6);
        check.register("16 by 16", forms, 2, want);
    }

    /** Promise 5: "IndexOutOfBoundsException;" */
    private static void registers(Check check) {
        Bounds.registers(check, "add", 3, (forms, r) -> forms.add(r[0], r[1], r[2], false));
        Bounds.registers(check, "add less", 3, (forms, r) -> forms.add(r[0], r[1], r[2], true));
        Counted forms = new Counted();
        forms.make(1, 1, 2);
        for (int r : new int[] {-1, 8}) {
            check.refused("to is named before shapes", forms, Check.INDEX, () -> forms.add(r, 0, 1, false));
        }
    }

    /** Promise 5: "IllegalArgumentException;" The shapes differ. */
    private static void shapes(Check check) {
        Counted forms = new Counted();
        Check.put(forms, 0, "1 2; 3 4");
        Check.put(forms, 1, "1 2 3; 3 4 5");
        Check.put(forms, 2, "1 2; 3 4; 5 6");
        Check.put(forms, 3, "5");
        Check.put(forms, 4, "1 2 3 4");
        for (int a = 0; a < 5; a++) {
            for (int b = 0; b < 5; b++) {
                int x = a;
                int y = b;
                if (a != b) {
                    check.refused("shapes " + a + " and " + b, forms, Check.ARGUMENT, () -> forms.add(0, x, y, false));
                    check.refused("shapes " + a + " less " + b, forms, Check.ARGUMENT, () -> forms.add(5, x, y, true));
                }
            }
        }
        for (int a = 0; a < 5; a++) {
            int x = a;
            check.due("one shape", Check.thrown(() -> forms.add(5, x, x, false)), Check.NONE);
        }
        Check.power(forms, 0, 2, 1, 3999);
        Check.fill(forms, 1, 1, 2, 0);
        check.refused("it is named before what is too long", forms, Check.ARGUMENT, () -> forms.add(2, 0, 1, false));
    }

    /** Promise 5: "UnsupportedOperationException." Here, a whole cell of 4000 and of more. */
    private static void lengthOfUpper(Check check) {
        Counted forms = new Counted();
        Check.power(forms, 0, 2, 1, 3999);
        forms.unit(1, 1);
        forms.add(2, 0, 1, true);
        check.due("2^3999 - 1", forms.length(2, 0, 0, false), 3999);
        forms.add(3, 0, 2, false);
        check.register("2^4000 - 1", forms, 3, BigInteger.TWO.pow(4000).subtract(BigInteger.ONE).toString());
        check.refused("2^4000", forms, Check.UNSUPPORTED, () -> forms.add(4, 3, 1, false));
        check.refused("2^3999 twice", forms, Check.UNSUPPORTED, () -> forms.add(0, 0, 0, false));
        forms.add(4, 4, 3, true);
        check.register("1 - 2^4000", forms, 4, BigInteger.ONE.subtract(BigInteger.TWO.pow(4000)).toString());
        check.refused("-2^4000", forms, Check.UNSUPPORTED, () -> forms.add(4, 4, 1, true));
        check.refused("twice", forms, Check.UNSUPPORTED, () -> forms.add(5, 4, 3, true));
        forms.add(5, 4, 3, false);
        check.register("taken away", forms, 5, "0");
        lastCell(check);
    }

    /** It is not enough that the first cell is short. */
    private static void lastCell(Check check) {
        Counted forms = new Counted();
        Check.power(forms, 0, 2, 1, 3999);
        Check.place(forms, 1, new int[] {2, 2}, 1, 1, 0);
        forms.unit(2, 2);
        forms.add(3, 1, 2, true);
        check.due("the last cell", forms.length(3, 1, 1, false), 3999);
        check.refused("the last cell twice", forms, Check.UNSUPPORTED, () -> forms.add(1, 1, 1, false));
    }

    /** Promise 5: "UnsupportedOperationException." Here, COMMON of 4000 and of more. */
    private static void lengthOfCommon(Check check) {
        Counted forms = new Counted();
        Check.power(forms, 0, 1, 2, 3998);
        Check.put(forms, 1, "1/3");
        forms.add(2, 0, 1, true);
        check.due("3 by 2^3998", forms.length(2, 0, 0, true), 4000);
        Check.power(forms, 0, 1, 2, 3999);
        check.refused("3 by 2^3999", forms, Check.UNSUPPORTED, () -> forms.add(2, 0, 1, true));
        check.refused("3 by 2^3999", forms, Check.UNSUPPORTED, () -> forms.add(1, 1, 0, false));
        forms.add(3, 0, 0, false);
        check.due("1 / 2^3998", forms.length(3, 0, 0, true), 3999);
    }

    /** Promise 5: "UnsupportedOperationException." Here, a cell times COMMON of 4000 and of more. */
    private static void lengthOfCells(Check check) {
        Counted forms = new Counted();
        Check.power(forms, 1, 1, 2, 3999);
        Check.place(forms, 0, new int[] {1, 2}, 0, 0, 1);
        Check.put(forms, 1, "0 -1");
        forms.add(2, 0, 1, true);
        check.due("1 times COMMON", Check.cell(forms, 2, 0, 1).toString(), "1");
        Check.put(forms, 1, "0 2");
        check.refused("2 times COMMON", forms, Check.UNSUPPORTED, () -> forms.add(2, 0, 1, false));
        check.refused("the other way", forms, Check.UNSUPPORTED, () -> forms.add(2, 1, 0, true));
    }

    /** Promise 5: "UnsupportedOperationException." It is the result that is too long, nothing else. */
    private static void onlyTheResultCounts(Check check) {
        Counted forms = new Counted();
        Check.power(forms, 0, 1, 3, 1300);
        Check.power(forms, 1, 1, 2, 1900);
        Check.power(forms, 2, 1, 5, 800);
        forms.add(3, 0, 1, false);
        check.due("COMMON of 2^1900 3^1300", forms.length(3, 0, 0, true), 3961);
        forms.add(4, 0, 2, false);
        check.due("COMMON of 5^800 3^1300", forms.length(4, 0, 0, true), 3918);
        check.refused("all three", forms, Check.UNSUPPORTED, () -> forms.add(5, 3, 4, false));
        forms.add(5, 3, 4, true);
        forms.add(6, 1, 2, true);
        check.holds("3^1300 is gone again", forms.same(5, 6));
        forms.add(3, 3, 1, true);
        check.holds("taken away again", forms.same(3, 0));
    }

    /** Promise 5: "UnsupportedOperationException." Here, 20000 limbs and one more. */
    private static void limbs(Check check) {
        Counted forms = new Counted();
        Check.full(forms);
        forms.make(2, 16, 11);
        forms.set(2, 4, 10, 1, 1);
        check.refused("20001 limbs", forms, Check.UNSUPPORTED, () -> forms.add(0, 0, 2, false));
        check.refused("20001 limbs", forms, Check.UNSUPPORTED, () -> forms.add(3, 2, 0, true));
        forms.set(2, 4, 10, 0, 1);
        forms.add(3, 2, 0, true);
        forms.add(3, 2, 3, true);
        check.holds("20000 limbs", forms.same(3, 0));
        forms.set(2, 5, 9, 1, 1);
        forms.add(3, 0, 2, false);
        check.due("no limb more", forms.limb(3, 5, 9, false, 0), 1);
        forms.make(4, 16, 11);
        forms.add(4, 0, 0, true);
        check.register("taken away", forms, 4, Model.zero(16, 11));
    }

    /** Promise 5: "UnsupportedOperationException." Here, 20000 limbs of which COMMON has 125. */
    private static void limbsOfCommon(Check check) {
        Counted forms = new Counted();
        Check.fullOfFractions(forms);
        check.due("COMMON", forms.length(0, 0, 0, true), 4000);
        Check.place(forms, 2, new int[] {16, 10}, 15, 9, 1);
        check.refused("20001 limbs", forms, Check.UNSUPPORTED, () -> forms.add(0, 0, 2, false));
        Check.place(forms, 2, new int[] {16, 10}, 15, 8, 1);
        forms.add(3, 0, 2, false);
        check.due("20000 limbs", forms.limb(3, 15, 8, false, 0), 1);
    }
}
