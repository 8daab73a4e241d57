/** Terms: which exception is thrown, which of several, and that nothing changes. */
public final class RefusalsTest {
    public static void main(String[] args) {
        Check check = new Check();
        missing(check);
        shapes(check);
        beyondBounds(check);
        weight(check);
        weightBeforeAnswers(check);
        registerBeforeArgument(check);
        registerBeforeBounds(check);
        argumentBeforeBounds(check);
        changesNothing(check);
        asIfNeverCalled(check);
        check.end("RefusalsTest");
    }

    /** Register 0 has 2^3999, 1 two cells of it, 2 is 3 by 2 of it, 3 has 1 / 2^3999, 4 a row of 16, 5 a third. */
    private static Counted wrongs() {
        Counted forms = new Counted();
        Check.power(forms, 0, 2, 1, 3999);
        Check.fill(forms, 1, 1, 2, 0);
        Check.fill(forms, 2, 3, 2, 0);
        Check.power(forms, 3, 1, 2, 3999);
        forms.make(4, 1, 16);
        forms.set(4, 0, 15, -1, 2);
        Check.put(forms, 5, "1/3");
        Check.put(forms, 6, "6 7; 8 9");
        Check.put(forms, 7, "-1/9 4");
        return forms;
    }

    /** Terms: "IndexOutOfBoundsException: there is no such register, row or column." */
    private static void missing(Check check) {
        Counted forms = wrongs();
        check.refused("register", forms, Check.INDEX, () -> forms.turn(0, 8));
        check.refused("register", forms, Check.INDEX, () -> forms.turn(-1, 0));
        check.refused("row", forms, Check.INDEX, () -> forms.set(6, 2, 0, 1, 1));
        check.refused("row", forms, Check.INDEX, () -> forms.part(0, 6, 0, 2, 0, 1));
        check.refused("column", forms, Check.INDEX, () -> forms.set(6, 0, 2, 1, 1));
        check.refused("column", forms, Check.INDEX, () -> forms.part(0, 6, 0, 1, -1, 1));
        check.due("the last of each", Check.thrown(() -> forms.set(6, 1, 1, 9, 1)), Check.NONE);
    }

    /** Terms: "IllegalArgumentException: shapes that do not fit, or what the call names." */
    private static void shapes(Check check) {
        Counted forms = wrongs();
        check.refused("make", forms, Check.ARGUMENT, () -> forms.make(0, 17, 1));
        check.refused("set", forms, Check.ARGUMENT, () -> forms.set(0, 0, 0, 1, 0));
        check.refused("unit", forms, Check.ARGUMENT, () -> forms.unit(0, 0));
        check.refused("add", forms, Check.ARGUMENT, () -> forms.add(0, 6, 7, false));
        check.refused("multiply", forms, Check.ARGUMENT, () -> forms.multiply(0, 6, 7));
        check.refused("beside", forms, Check.ARGUMENT, () -> forms.beside(0, 6, 7));
        check.refused("part", forms, Check.ARGUMENT, () -> forms.part(0, 6, 1, 0, 0, 0));
        check.refused("solve", forms, Check.ARGUMENT, () -> forms.solve(0, 6, 7));
        check.refused("invert", forms, Check.ARGUMENT, () -> forms.invert(0, 7));
        check.refused("determinant", forms, Check.ARGUMENT, () -> forms.determinant(0, 7));
        check.refused("hermite", forms, Check.ARGUMENT, () -> forms.hermite(0, 7));
        check.refused("smith", forms, Check.ARGUMENT, () -> forms.smith(0, 7));
        check.due("echelon asks for no shape", Check.thrown(() -> forms.echelon(0, 7)), Check.NONE);
        check.due("kernel asks for no shape", Check.thrown(() -> forms.kernel(0, 7)), Check.NONE);
        check.due("turn asks for no shape", Check.thrown(() -> forms.turn(0, 7)), Check.NONE);
    }

    /**
     * Terms: "UnsupportedOperationException: the result would have more than 16 rows or columns, or lengths
     * or limbs beyond their bounds;"
     */
    private static void beyondBounds(Check check) {
        Counted forms = wrongs();
        check.refused("17 columns", forms, Check.UNSUPPORTED, () -> forms.beside(0, 4, 5));
        check.refused("17 columns", forms, Check.UNSUPPORTED, () -> forms.beside(4, 5, 4));
        check.refused("length, set", forms, Check.UNSUPPORTED, () -> forms.set(1, 0, 0, 1, 2));
        check.refused("length, add", forms, Check.UNSUPPORTED, () -> forms.add(0, 0, 0, false));
        check.refused("length, multiply", forms, Check.UNSUPPORTED, () -> forms.multiply(0, 0, 1));
        check.refused("length, beside", forms, Check.UNSUPPORTED, () -> forms.beside(0, 0, 3));
        check.refused("length, determinant", forms, Check.UNSUPPORTED, () -> {
            Counted two = new Counted();
            Check.power(two, 3, 1, 2, 2000);
            Check.place(two, 0, new int[] {2, 2}, 0, 1, 3);
            Check.place(two, 1, new int[] {2, 2}, 1, 0, 3);
            two.add(0, 0, 1, true);
            two.determinant(0, 0);
        });
        Counted full = new Counted();
        Check.full(full);
        full.make(3, 16, 1);
        full.set(3, 7, 0, 1, 1);
        check.refused("limbs, set", full, Check.UNSUPPORTED, () -> full.set(0, 0, 10, 5, 1));
        check.refused("limbs, beside", full, Check.UNSUPPORTED, () -> full.beside(2, 3, 0));
        full.unit(4, 11);
        full.set(4, 0, 10, 1, 1);
        check.refused("limbs, multiply", full, Check.UNSUPPORTED, () -> full.multiply(2, 0, 4));
        full.make(5, 16, 11);
        full.set(5, 0, 10, 1, 1);
        check.refused("limbs, add", full, Check.UNSUPPORTED, () -> full.add(2, 5, 0, true));
    }

    /**
     * Terms: "where a call says WEIGHT: also if that is above 2000, before anything is worked out (so also
     * where the answer would be false or 0)." Here, that it is above 2000.
     */
    private static void weight(Check check) {
        for (int e : new int[] {1999, 2000}) {
            int want = e < 2000 ? Check.NONE : Check.UNSUPPORTED;
            Counted forms = new Counted();
            Check.power(forms, 0, 2, 1, e);
            forms.unit(1, 1);
            weighed(check, "echelon of 2^" + e, forms, want, () -> forms.echelon(2, 0));
            weighed(check, "kernel of 2^" + e, forms, want, () -> forms.kernel(2, 0));
            weighed(check, "solve with 2^" + e, forms, want, () -> forms.solve(2, 0, 1));
            weighed(check, "solve for 2^" + e, forms, want, () -> forms.solve(2, 1, 0));
            weighed(check, "invert 2^" + e, forms, want, () -> forms.invert(2, 0));
            weighed(check, "determinant of 2^" + e, forms, want, () -> forms.determinant(2, 0));
            weighed(check, "hermite of 2^" + e, forms, want, () -> forms.hermite(2, 0));
            weighed(check, "smith of 2^" + e, forms, want, () -> forms.smith(2, 0));
            weighed(check, "add of 2^" + e, forms, Check.NONE, () -> forms.add(2, 0, 0, true));
            weighed(check, "multiply of 2^" + e, forms, Check.NONE, () -> forms.multiply(2, 0, 1));
            weighed(check, "turn of 2^" + e, forms, Check.NONE, () -> forms.turn(2, 0));
            weighed(check, "beside of 2^" + e, forms, Check.NONE, () -> forms.beside(2, 0, 1));
            weighed(check, "part of 2^" + e, forms, Check.NONE, () -> forms.part(2, 0, 0, 0, 0, 0));
        }
    }

    private static void weighed(Check check, String what, Counted forms, int want, Check.Call call) {
        if (want == Check.NONE) {
            check.due(what, Check.thrown(call), want);
        } else {
            check.refused(what, forms, want, call);
        }
    }

    /**
     * Terms: "where a call says WEIGHT: also if that is above 2000, before anything is worked out (so also
     * where the answer would be false or 0)." Here, where it would be false or 0.
     */
    private static void weightBeforeAnswers(Check check) {
        for (int e : new int[] {998, 999}) {
            Counted forms = new Counted();
            Check.power(forms, 3, 2, 1, e);
            // Rank 1 of 2, so no inverse; the two beside each other have a kernel of 0.
            Check.fill(forms, 0, 2, 2, 3);
            Check.place(forms, 1, new int[] {2, 2}, 0, 1, 3);
            forms.set(1, 1, 0, 1, 1);
            Check.put(forms, 2, "1; 2");
            Check.Answer[] calls = {() -> forms.invert(4, 0), () -> forms.solve(4, 0, 2), () -> forms.kernel(4, 1)};
            Object[] answers = {false, false, 0};
            for (int i = 0; i < calls.length; i++) {
                int at = i;
                if (e == 998) {
                    check.leaves("answer " + i, forms, answers[i], calls[i]);
                } else {
                    check.refused("answer " + i, forms, Check.UNSUPPORTED, () -> calls[at].get());
                }
            }
            if (e == 998) {
                forms.determinant(4, 0);
                check.register("a determinant of 0", forms, 4, "0");
            } else {
                check.refused("a determinant of 0", forms, Check.UNSUPPORTED, () -> forms.determinant(4, 0));
            }
        }
    }

    /** Terms: "Of several the one named first is thrown (here);" Here, a missing one before what the call names. */
    private static void registerBeforeArgument(Check check) {
        Counted forms = wrongs();
        for (int no : new int[] {-1, 8}) {
            check.refused("make", forms, Check.INDEX, () -> forms.make(no, 0, 17));
            check.refused("set", forms, Check.INDEX, () -> forms.set(no, 0, 0, 1, 0));
            check.refused("set, row", forms, Check.INDEX, () -> forms.set(7, no, 0, 1, 0));
            check.refused("set, column", forms, Check.INDEX, () -> forms.set(7, 0, no, 1, 0));
            check.refused("unit", forms, Check.INDEX, () -> forms.unit(no, 17));
            check.refused("add", forms, Check.INDEX, () -> forms.add(no, 6, 7, false));
            check.refused("multiply", forms, Check.INDEX, () -> forms.multiply(no, 6, 7));
            check.refused("beside", forms, Check.INDEX, () -> forms.beside(no, 6, 7));
            check.refused("part", forms, Check.INDEX, () -> forms.part(no, 6, 1, 0, 1, 0));
            check.refused("part, i", forms, Check.INDEX, () -> forms.part(0, 6, no, 0, 1, 0));
            check.refused("part, k", forms, Check.INDEX, () -> forms.part(0, 6, 1, no, 1, 0));
            check.refused("part, j", forms, Check.INDEX, () -> forms.part(0, 6, 1, 0, no, 0));
            check.refused("part, l", forms, Check.INDEX, () -> forms.part(0, 6, 1, 0, 1, no));
            check.refused("solve", forms, Check.INDEX, () -> forms.solve(no, 6, 7));
            check.refused("invert", forms, Check.INDEX, () -> forms.invert(no, 7));
            check.refused("determinant", forms, Check.INDEX, () -> forms.determinant(no, 7));
            check.refused("hermite", forms, Check.INDEX, () -> forms.hermite(no, 7));
            check.refused("smith", forms, Check.INDEX, () -> forms.smith(no, 7));
        }
    }

    /** Terms: "Of several the one named first is thrown (here);" Here, a missing one before what is too long. */
    private static void registerBeforeBounds(Check check) {
        Counted forms = wrongs();
        for (int no : new int[] {-1, 8}) {
            check.refused("set", forms, Check.INDEX, () -> forms.set(1, no, 0, 1, 2));
            check.refused("add", forms, Check.INDEX, () -> forms.add(no, 0, 0, false));
            check.refused("multiply", forms, Check.INDEX, () -> forms.multiply(no, 0, 0));
            check.refused("beside, length", forms, Check.INDEX, () -> forms.beside(no, 0, 3));
            check.refused("beside, columns", forms, Check.INDEX, () -> forms.beside(no, 4, 4));
            check.refused("echelon", forms, Check.INDEX, () -> forms.echelon(no, 0));
            check.refused("kernel", forms, Check.INDEX, () -> forms.kernel(no, 0));
            check.refused("solve", forms, Check.INDEX, () -> forms.solve(no, 0, 0));
            check.refused("invert", forms, Check.INDEX, () -> forms.invert(no, 0));
            check.refused("determinant", forms, Check.INDEX, () -> forms.determinant(no, 0));
            check.refused("hermite", forms, Check.INDEX, () -> forms.hermite(no, 0));
            check.refused("smith", forms, Check.INDEX, () -> forms.smith(no, 0));
        }
    }

    /** Terms: "Of several the one named first is thrown (here);" Here, what the call names before what is too long. */
    private static void argumentBeforeBounds(Check check) {
        Counted forms = wrongs();
        check.refused("set", forms, Check.ARGUMENT, () -> forms.set(1, 0, 0, Long.MAX_VALUE, 0));
        check.refused("add", forms, Check.ARGUMENT, () -> forms.add(5, 0, 1, false));
        check.refused("multiply", forms, Check.ARGUMENT, () -> forms.multiply(5, 1, 1));
        check.refused("beside, length", forms, Check.ARGUMENT, () -> forms.beside(5, 2, 3));
        check.refused("beside, columns", forms, Check.ARGUMENT, () -> forms.beside(5, 4, 2));
        check.refused("solve", forms, Check.ARGUMENT, () -> forms.solve(5, 0, 2));
        check.refused("invert", forms, Check.ARGUMENT, () -> forms.invert(5, 1));
        check.refused("determinant", forms, Check.ARGUMENT, () -> forms.determinant(5, 2));
        Counted fractions = new Counted();
        Check.power(fractions, 1, 2, 1, 2000);
        fractions.make(2, 1, 1);
        fractions.set(2, 0, 0, 1, 2);
        fractions.beside(0, 1, 2);
        check.refused("hermite", fractions, Check.ARGUMENT, () -> fractions.hermite(3, 0));
        check.refused("smith", fractions, Check.ARGUMENT, () -> fractions.smith(3, 0));
        check.refused("they are too heavy as well", fractions, Check.UNSUPPORTED, () -> fractions.echelon(3, 0));
    }

    /** Terms: "a call that throws changes nothing." Here, the registers, and what was read just before. */
    private static void changesNothing(Check check) {
        Counted forms = wrongs();
        check.due("length", forms.length(7, 0, 0, true), 4);
        check.refused("set over a cell just read", forms, Check.ARGUMENT, () -> forms.set(7, 0, 0, 1, 0));
        check.due("length again", forms.length(7, 0, 0, true), 4);
        check.due("limb", forms.limb(1, 0, 1, false, 124), 1 << 31);
        check.due("thrown", Check.thrown(() -> forms.set(1, 0, 1, 1, 2)), Check.UNSUPPORTED);
        check.due("limb again", forms.limb(1, 0, 1, false, 124), 1 << 31);
        check.due("lower again", forms.length(1, 0, 1, true), 1);
        check.due("length", forms.length(2, 2, 1, false), 4000);
        check.due("thrown", Check.thrown(() -> forms.set(2, 2, 1, 1, 2)), Check.UNSUPPORTED);
        check.due("length again", forms.length(2, 2, 1, false), 4000);
        check.due("limb again", forms.limb(2, 2, 1, false, 124), 1 << 31);
        check.due("lower again", forms.length(2, 2, 1, true), 1);
        check.due("thrown", Check.thrown(() -> forms.add(2, 2, 2, false)), Check.UNSUPPORTED);
        check.due("rows", forms.size(2, false), 3);
        check.due("columns", forms.size(2, true), 2);
        check.due("sign", forms.sign(2, 2, 1), 1);
        check.due("thrown", Check.thrown(() -> forms.make(2, 16, 17)), Check.ARGUMENT);
        check.due("rows", forms.size(2, false), 3);
    }

    /** Terms: "a call that throws changes nothing." Here, no later answer: as of an object that was not called. */
    private static void asIfNeverCalled(Check check) {
        Counted plain = wrongs();
        Counted disturbed = wrongs();
        disturb(disturbed);
        for (int r = 0; r < 8; r++) {
            check.register("register " + r, disturbed, r, Check.read(plain, r));
        }
        answers(check, plain, disturbed, 0);
        disturb(disturbed);
        answers(check, plain, disturbed, 1);
    }

    private static void disturb(Counted forms) {
        Check.Call[] calls = {() -> forms.make(6, 0, 3), () -> forms.set(2, 0, 0, 1, 2), () -> forms.unit(6, 17),
            () -> forms.add(6, 0, 0, false), () -> forms.multiply(6, 0, 1), () -> forms.turn(8, 6),
            () -> forms.beside(6, 4, 4), () -> forms.part(6, 6, 1, 0, 0, 0), () -> forms.echelon(6, 2),
            () -> forms.kernel(6, 2), () -> forms.solve(6, 0, 3), () -> forms.invert(6, 0),
            () -> forms.determinant(6, 0), () -> forms.hermite(6, 0), () -> forms.smith(6, 0),
            () -> forms.hermite(7, 7), () -> forms.smith(7, 7), () -> forms.limb(6, 0, 0, false, -1)};
        for (Check.Call call : calls) {
            if (Check.thrown(call) == Check.NONE) {
                throw new AssertionError("this call was to be refused");
            }
        }
    }

    private static void answers(Check check, Counted plain, Counted disturbed, int round) {
        long[][] answers = new long[2][];
        for (int i = 0; i < 2; i++) {
            Counted forms = i == 0 ? plain : disturbed;
            answers[i] = new long[] {forms.echelon(0, 6), forms.kernel(1, 7), forms.hermite(2, 6), forms.smith(3, 6),
                forms.solve(4, 6, 6) ? 1 : 0, forms.invert(5, 6) ? 1 : 0, forms.same(0, 4) ? 1 : 0,
                forms.length(5, 1, 1, true), forms.limb(2, 0, 0, false, 0)};
        }
        for (int i = 0; i < answers[0].length; i++) {
            check.due("round " + round + ", answer " + i, answers[1][i], answers[0][i]);
        }
        for (int r = 0; r < 8; r++) {
            check.register("round " + round + ", register " + r, disturbed, r, Check.read(plain, r));
        }
        for (Counted forms : new Counted[] {plain, disturbed}) {
            Check.power(forms, 0, 2, 1, 3999);
            Check.fill(forms, 1, 1, 2, 0);
            Check.fill(forms, 2, 3, 2, 0);
            Check.power(forms, 3, 1, 2, 3999);
            forms.make(4, 1, 16);
            Check.put(forms, 6, "6 7; 8 9");
            Check.put(forms, 7, "-1/9 4");
        }
    }
}
