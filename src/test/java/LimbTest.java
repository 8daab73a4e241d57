import java.math.BigInteger;

/** Promise 20: limb. */
public final class LimbTest {
    public static void main(String[] args) {
        Check check = new Check();
        ExactForms forms = new ExactForms();
        forms.make(1, 2, 2);
        limbs(check, forms, 0, 1, new int[] {0, 0, 0}, new int[] {1, 0, 0});
        limbs(check, forms, -1, 3, new int[] {1, 0, 0}, new int[] {3, 0, 0});
        limbs(check, forms, 10, -4, new int[] {5, 0, 0}, new int[] {2, 0, 0});
        limbs(check, forms, 0xFFFFFFFFL, 1, new int[] {-1, 0, 0}, new int[] {1, 0, 0});
        limbs(check, forms, 1L << 32, 0x123456789ABCDEFL, new int[] {0, 1, 0}, new int[] {0x89ABCDEF, 0x1234567, 0});
        limbs(check, forms, Long.MIN_VALUE, 5, new int[] {0, 1 << 31, 0}, new int[] {5, 0, 0});
        limbs(check, forms, 7, Long.MIN_VALUE, new int[] {7, 0, 0}, new int[] {0, 1 << 31, 0});
        limbs(check, forms, Long.MAX_VALUE, 2, new int[] {-1, Integer.MAX_VALUE, 0}, new int[] {2, 0, 0});
        longOnes(check, forms);
        wrong(check, forms);
        check.end("LimbTest");
    }

    private static void limbs(Check check, ExactForms forms, long u, long l, int[] upper, int[] lower) {
        forms.set(1, 1, 0, u, l);
        for (int k = 0; k < 3; k++) {
            check.due(u + " / " + l + ", upper limb " + k, forms.limb(1, 1, 0, false, k), upper[k]);
            check.due(u + " / " + l + ", lower limb " + k, forms.limb(1, 1, 0, true, k), lower[k]);
        }
    }

    private static void longOnes(Check check, ExactForms forms) {
        Check.power(forms, 0, -3, 7, 1400);
        BigInteger upper = BigInteger.valueOf(3).pow(1400);
        BigInteger lower = BigInteger.valueOf(7).pow(1400);
        for (int k = 0; k < 130; k++) {
            check.due("upper limb " + k, forms.limb(0, 0, 0, false, k), upper.shiftRight(32 * k).intValue());
            check.due("lower limb " + k, forms.limb(0, 0, 0, true, k), lower.shiftRight(32 * k).intValue());
        }
        for (int k : new int[] {1000, 1 << 26, 1 << 27, 1 << 30, Integer.MAX_VALUE}) {
            check.due("far behind", forms.limb(0, 0, 0, false, k), 0);
            check.due("far behind", forms.limb(0, 0, 0, true, k), 0);
        }
    }

    private static void wrong(Check check, ExactForms forms) {
        for (int k : new int[] {-1, -2, Integer.MIN_VALUE}) {
            check.refused("limb " + k, forms, Check.INDEX, () -> forms.limb(1, 0, 0, false, k));
            check.refused("limb " + k, forms, Check.INDEX, () -> forms.limb(1, 0, 0, true, k));
        }
        int[][] places = {{-1, 0, 0}, {8, 0, 0}, {1, -1, 0}, {1, 2, 0}, {1, 0, -1}, {1, 0, 2},
            {1, Integer.MAX_VALUE, 0}, {1, 0, Integer.MIN_VALUE}};
        for (int[] p : places) {
            check.refused("limb there", forms, Check.INDEX, () -> forms.limb(p[0], p[1], p[2], false, 0));
            check.refused("limb there", forms, Check.INDEX, () -> forms.limb(p[0], p[1], p[2], true, -1));
        }
    }
}
