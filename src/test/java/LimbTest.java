import java.math.BigInteger;

/** Promise 20: limb. */
public final class LimbTest {
    public static void main(String[] args) {
        Check check = new Check();
        known(check);
        longOnes(check);
        behind(check);
        belowZero(check);
        registersRowsAndColumns(check);
        check.end("LimbTest");
    }

    /** Promise 20: "32 bits of the size of a cell's upper (or lower) part, from bit 32 k on;" */
    private static void known(Check check) {
        Counted forms = new Counted();
        forms.make(1, 2, 2);
        limbs(check, forms, 0, 1, new int[] {0, 0, 0}, new int[] {1, 0, 0});
        limbs(check, forms, -1, 3, new int[] {1, 0, 0}, new int[] {3, 0, 0});
        limbs(check, forms, 10, -4, new int[] {5, 0, 0}, new int[] {2, 0, 0});
        limbs(check, forms, 0xFFFFFFFFL, 1, new int[] {-1, 0, 0}, new int[] {1, 0, 0});
        limbs(check, forms, -0xFFFFFFFFL, 2, new int[] {-1, 0, 0}, new int[] {2, 0, 0});
        limbs(check, forms, 1L << 31, 1, new int[] {1 << 31, 0, 0}, new int[] {1, 0, 0});
        limbs(check, forms, 1L << 32, 0x123456789ABCDEFL, new int[] {0, 1, 0}, new int[] {0x89ABCDEF, 0x1234567, 0});
        limbs(check, forms, Long.MIN_VALUE, 5, new int[] {0, 1 << 31, 0}, new int[] {5, 0, 0});
        limbs(check, forms, 7, Long.MIN_VALUE, new int[] {7, 0, 0}, new int[] {0, 1 << 31, 0});
        limbs(check, forms, Long.MAX_VALUE, 2, new int[] {-1, Integer.MAX_VALUE, 0}, new int[] {2, 0, 0});
    }

    private static void limbs(Check check, Counted forms, long u, long l, int[] upper, int[] lower) {
        forms.set(1, 1, 0, u, l);
        for (int k = 0; k < 3; k++) {
            check.due(u + " / " + l + ", upper limb " + k, forms.limb(1, 1, 0, false, k), upper[k]);
            check.due(u + " / " + l + ", lower limb " + k, forms.limb(1, 1, 0, true, k), lower[k]);
        }
    }

    private static void longOnes(Check check) {
        Counted forms = new Counted();
        Check.power(forms, 0, -3, 7, 1400);
        BigInteger upper = BigInteger.valueOf(3).pow(1400);
        BigInteger lower = BigInteger.valueOf(7).pow(1400);
        for (int k = 0; k < 130; k++) {
            check.due("upper limb " + k, forms.limb(0, 0, 0, false, k), upper.shiftRight(32 * k).intValue());
            check.due("lower limb " + k, forms.limb(0, 0, 0, true, k), lower.shiftRight(32 * k).intValue());
        }
    }

    /** Promise 20: "0 behind them." */
    private static void behind(Check check) {
        Counted forms = new Counted();
        Check.power(forms, 0, 2, 1, 3999);
        check.due("the last limb there can be", forms.limb(0, 0, 0, false, 124), 1 << 31);
        check.due("the one before", forms.limb(0, 0, 0, false, 123), 0);
        Check.power(forms, 1, 1, 2, 3999);
        check.due("the last limb of the lower part", forms.limb(1, 0, 0, true, 124), 1 << 31);
        int[] far = {125, 126, 127, 128, 250, 252, 253, 1000, 1 << 26, 1 << 27, 1 << 30, Integer.MAX_VALUE};
        for (int r = 0; r < 3; r++) {
            for (int k : far) {
                check.due("upper limb " + k, forms.limb(r, 0, 0, false, k), 0);
                check.due("lower limb " + k, forms.limb(r, 0, 0, true, k), 0);
            }
        }
        for (int k = 1; k < 125; k++) {
            check.due("behind 1, limb " + k, forms.limb(0, 0, 0, true, k), 0);
            check.due("behind 1, limb " + k, forms.limb(1, 0, 0, false, k), 0);
        }
        forms.set(0, 0, 0, 5, 3);
        for (int k = 1; k < 126; k++) {
            check.due("where a longer one was, limb " + k, forms.limb(0, 0, 0, false, k), 0);
        }
    }

    /** Promise 20: "IndexOutOfBoundsException: also when k is below 0." Here, k. */
    private static void belowZero(Check check) {
        Counted forms = new Counted();
        forms.make(1, 2, 2);
        forms.set(1, 0, 0, 7, 3);
        for (int k : new int[] {-1, -2, -32, Integer.MIN_VALUE, Integer.MIN_VALUE + 1}) {
            check.refused("limb " + k, forms, Check.INDEX, () -> forms.limb(1, 0, 0, false, k));
            check.refused("limb " + k, forms, Check.INDEX, () -> forms.limb(1, 0, 0, true, k));
            check.refused("limb " + k + " of 0", forms, Check.INDEX, () -> forms.limb(1, 1, 1, false, k));
        }
        check.due("k of 0", forms.limb(1, 0, 0, false, 0), 7);
        check.due("k of 0", forms.limb(1, 0, 0, true, 0), 3);
    }

    /** Promise 20: "IndexOutOfBoundsException: also when k is below 0." Here, all the others. */
    private static void registersRowsAndColumns(Check check) {
        Bounds.registers(check, "upper limb", 1, (forms, r) -> forms.limb(r[0], 0, 0, false, 0));
        Bounds.registers(check, "lower limb", 1, (forms, r) -> forms.limb(r[0], 0, 0, true, 5));
        Bounds.cells(check, "upper limb", (forms, r, row, column) -> forms.limb(r, row, column, false, 0));
        Bounds.cells(check, "lower limb", (forms, r, row, column) -> forms.limb(r, row, column, true, 3));
    }
}
