import java.math.BigInteger;

/** Promise 3: set. */
public final class SetTest {
    public static void main(String[] args) {
        Check check = new Check();
        values(check);
        wrong(check);
        commonIsOfTheOthers(check);
        lengths(check);
        limbs(check);
        check.end("SetTest");
    }

    private static void values(Check check) {
        long[] numbers = {0, 1, -1, 2, -3, 6, 10, -12, 1L << 32, (1L << 32) - 1, -(1L << 31), 1L << 62,
            Long.MAX_VALUE, Long.MIN_VALUE, Long.MIN_VALUE + 1, 123456789012345L};
        ExactForms forms = new ExactForms();
        Model model = new Model();
        forms.make(2, 2, 3);
        model.make(2, 2, 3);
        int at = 0;
        for (long u : numbers) {
            for (long l : numbers) {
                if (l != 0) {
                    forms.set(2, at % 2, at % 3, u, l);
                    model.set(2, at % 2, at % 3, u, l);
                    check.register("set " + u + " / " + l, forms, 2, model.registers[2]);
                    at++;
                }
            }
        }
        Check.put(forms, 0, "1/2 1/3; 1/4 1/6");
        forms.set(0, 1, 0, 0, -5);
        check.register("0 / -5", forms, 0, "1/2 1/3; 0 1/6");
        forms.set(0, 0, 0, 6, -4);
        check.register("6 / -4", forms, 0, "-3/2 1/3; 0 1/6");
    }

    private static void wrong(Check check) {
        ExactForms forms = new ExactForms();
        Check.put(forms, 3, "1/2 5 7; -3 1/9 0");
        int[][] places = {{-1, 0, 0}, {8, 0, 0}, {3, -1, 0}, {3, 2, 0}, {3, 0, -1}, {3, 0, 3}, {0, 1, 0}, {0, 0, 1},
            {3, Integer.MAX_VALUE, 0}, {3, 0, Integer.MIN_VALUE}};
        for (int[] p : places) {
            check.refused("set there", forms, Check.INDEX, () -> forms.set(p[0], p[1], p[2], 1, 1));
            check.refused("set there over 0", forms, Check.INDEX, () -> forms.set(p[0], p[1], p[2], 1, 0));
        }
        check.refused("set 1 / 0", forms, Check.ARGUMENT, () -> forms.set(3, 1, 2, 1, 0));
        check.refused("set 0 / 0", forms, Check.ARGUMENT, () -> forms.set(3, 1, 2, 0, 0));
    }

    /** What the cell had before counts no more: it may be what made COMMON long. */
    private static void commonIsOfTheOthers(Check check) {
        ExactForms forms = new ExactForms();
        Check.power(forms, 1, 1, 2, 3999);
        Check.place(forms, 0, new int[] {1, 2}, 0, 0, 1);
        check.due("COMMON of 4000", forms.length(0, 0, 0, true), 4000);
        check.refused("COMMON of 4001", forms, Check.UNSUPPORTED, () -> forms.set(0, 0, 1, 1, 3));
        check.refused("1 / 0 before that", forms, Check.ARGUMENT, () -> forms.set(0, 0, 1, 1, 0));
        forms.set(0, 0, 1, 5, 1L << 62);
        check.due("5 / 2^62", Check.cell(forms, 0, 0, 1).toString(), Ratio.of(5, 1L << 62).toString());
        forms.set(0, 0, 0, 1, 3);
        check.register("the long one is gone", forms, 0, "1/3 5/4611686018427387904");
        check.holds("as if it had never been", isHermiteRefusedOnlyForFractions(forms));
    }

    private static boolean isHermiteRefusedOnlyForFractions(ExactForms forms) {
        forms.set(0, 0, 0, 3, 1);
        forms.set(0, 0, 1, -6, -2);
        return forms.hermite(2, 0) == 1;
    }

    private static void lengths(Check check) {
        ExactForms forms = new ExactForms();
        Check.power(forms, 1, 1, 2, 3999);
        Check.place(forms, 0, new int[] {2, 2}, 1, 0, 1);
        forms.set(0, 0, 1, 1, 1);
        check.due("1 times COMMON has 4000", Check.cell(forms, 0, 0, 1).toString(), "1");
        check.refused("2 times COMMON", forms, Check.UNSUPPORTED, () -> forms.set(0, 0, 1, 2, 1));
        check.refused("-2 times COMMON", forms, Check.UNSUPPORTED, () -> forms.set(0, 1, 1, -2, 1));
        check.refused("5/4 times COMMON is not, 5/2 is", forms, Check.UNSUPPORTED, () -> forms.set(0, 1, 1, 5, 2));
        forms.set(0, 1, 1, -7, 4);
        check.due("-7/4", Check.cell(forms, 0, 1, 1).toString(), "-7/4");
        check.due("the other stays", Check.cell(forms, 0, 1, 0).toString(),
            "1/" + BigInteger.TWO.pow(3999));
    }

    private static void limbs(Check check) {
        ExactForms forms = new ExactForms();
        Check.full(forms);
        check.refused("one limb more", forms, Check.UNSUPPORTED, () -> forms.set(0, 3, 10, 1, 1));
        check.refused("halves: COMMON stays one limb, but not the cell", forms, Check.UNSUPPORTED,
            () -> forms.set(0, 3, 10, 1, 2));
        forms.set(0, 3, 10, 0, -9);
        check.due("0 needs no limb", forms.sign(0, 3, 10), 0);
        forms.set(0, 2, 2, 7, 1);
        forms.set(0, 3, 10, -1, 1);
        check.due("124 limbs are free now", forms.sign(0, 3, 10), -1);
        check.due("set", Check.cell(forms, 0, 2, 2).toString(), "7");
    }
}
