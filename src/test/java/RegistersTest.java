/** Terms: the registers, and the rows and columns of their matrices. */
public final class RegistersTest {
    public static void main(String[] args) {
        Check check = new Check();
        eight(check);
        atFirst(check);
        sixteenInAll(check);
        sixteenAsResult(check);
        numberedFromZero(check);
        smallerAndGreater(check);
        check.end("RegistersTest");
    }

    /** Terms: "There are 8 REGISTERS, 0 .. 7," Each holds what was put there, whatever the others hold. */
    private static void eight(Check check) {
        Counted forms = new Counted();
        for (int r = 0; r < 8; r++) {
            forms.set(r, 0, 0, r + 1, 7);
        }
        for (int r = 0; r < 8; r++) {
            check.register("register " + r, forms, r, (r + 1) + "/7");
        }
        for (int r = 0; r < 8; r++) {
            forms.make(r, 2, 2);
            for (int other = 0; other < 8; other++) {
                check.due("rows of " + other, forms.size(other, false), other <= r ? 2 : 1);
            }
        }
        for (int r : new int[] {-1, 8, 9, 15, 16, 255, 256, Integer.MIN_VALUE, Integer.MAX_VALUE}) {
            check.refused("make in " + r, forms, Check.INDEX, () -> forms.make(r, 1, 1));
            check.refused("set in " + r, forms, Check.INDEX, () -> forms.set(r, 0, 0, 1, 1));
            check.refused("turn of " + r, forms, Check.INDEX, () -> forms.turn(0, r));
            check.refused("same as " + r, forms, Check.INDEX, () -> forms.same(0, r));
        }
    }

    /** Terms: "each with a MATRIX of 1 .. 16 rows and 1 .. 16 columns (at first one cell, 0);" At first. */
    private static void atFirst(Check check) {
        Counted forms = new Counted();
        for (int r = 0; r < 8; r++) {
            check.register("register " + r, forms, r, "0");
        }
    }

    /** Terms: "each with a MATRIX of 1 .. 16 rows and 1 .. 16 columns (at first one cell, 0);" All at once. */
    private static void sixteenInAll(Check check) {
        Counted forms = new Counted();
        for (int r = 0; r < 8; r++) {
            forms.make(r, 16, 16);
            for (int i = 0; i < 16; i++) {
                forms.set(r, i, 15 - i, i + 1, r + 1);
            }
        }
        for (int r = 0; r < 8; r++) {
            Ratio[][] want = Model.zero(16, 16);
            for (int i = 0; i < 16; i++) {
                want[i][15 - i] = Ratio.of(i + 1, r + 1);
            }
            check.register("register " + r, forms, r, want);
        }
        int[][] wrong = {{0, 16}, {16, 0}, {17, 16}, {16, 17}};
        for (int[] shape : wrong) {
            check.refused("make " + shape[0] + " " + shape[1], forms, Check.ARGUMENT,
                () -> forms.make(3, shape[0], shape[1]));
        }
    }

    /** Terms: "each with a MATRIX of 1 .. 16 rows and 1 .. 16 columns (at first one cell, 0);" Of each call. */
    private static void sixteenAsResult(Check check) {
        Counted forms = new Counted();
        forms.make(0, 16, 1);
        forms.make(1, 1, 16);
        forms.set(0, 15, 0, 1, 2);
        forms.set(1, 0, 15, 3, 1);
        forms.multiply(2, 0, 1);
        Ratio[][] want = Model.zero(16, 16);
        want[15][15] = Ratio.of(3, 2);
        check.register("multiply", forms, 2, want);
        forms.multiply(3, 1, 0);
        check.register("multiply to one cell", forms, 3, "3/2");
        forms.turn(3, 1);
        check.due("turn", forms.size(3, false), 16);
        forms.make(3, 16, 15);
        forms.beside(4, 3, 0);
        check.due("beside", forms.size(4, true), 16);
        check.refused("beside, 17", forms, Check.UNSUPPORTED, () -> forms.beside(3, 4, 0));
        forms.make(3, 16, 16);
        check.due("kernel of 0", forms.kernel(3, 3), 16);
        check.register("kernel of 0", forms, 3, Model.one(16));
        check.holds("solve", forms.solve(4, 3, 2));
        check.register("solve", forms, 4, want);
        check.holds("invert", forms.invert(5, 3));
        check.register("invert", forms, 5, Model.one(16));
        check.due("echelon", forms.echelon(5, 2), 1);
        want[15][15] = Ratio.ZERO;
        want[0][15] = Ratio.ONE;
        check.register("echelon", forms, 5, want);
        check.due("hermite", forms.hermite(6, 5), 1);
        check.register("hermite", forms, 6, want);
        check.due("smith", forms.smith(6, 5), 1);
        want[0][15] = Ratio.ZERO;
        want[0][0] = Ratio.ONE;
        check.register("smith", forms, 6, want);
        forms.part(6, 6, 0, 15, 0, 15);
        check.register("part", forms, 6, want);
        forms.add(6, 6, 3, false);
        want = Model.one(16);
        want[0][0] = Ratio.of(2, 1);
        check.register("add", forms, 6, want);
        forms.determinant(6, 6);
        check.register("determinant", forms, 6, "2");
    }

    /** Terms: "rows and columns are numbered from 0." */
    private static void numberedFromZero(Check check) {
        Counted forms = new Counted();
        forms.make(0, 3, 2);
        int number = 1;
        for (int i = 0; i < 3; i++) {
            for (int j = 0; j < 2; j++) {
                forms.set(0, i, j, number, 1);
                number++;
            }
        }
        check.register("3 by 2", forms, 0, "1 2; 3 4; 5 6");
        check.refused("row 3", forms, Check.INDEX, () -> forms.set(0, 3, 0, 9, 1));
        check.refused("column 2", forms, Check.INDEX, () -> forms.set(0, 0, 2, 9, 1));
        check.refused("row -1", forms, Check.INDEX, () -> forms.set(0, -1, 1, 9, 1));
        check.refused("column -1", forms, Check.INDEX, () -> forms.set(0, 1, -1, 9, 1));
        check.due("row 0, column 0", forms.limb(0, 0, 0, false, 0), 1);
        check.due("row 2, column 1", forms.limb(0, 2, 1, false, 0), 6);
        check.due("row 1, column 0", forms.limb(0, 1, 0, false, 0), 3);
        forms.part(1, 0, 0, 0, 1, 1);
        check.register("part of row 0, column 1", forms, 1, "2");
        forms.part(1, 0, 2, 2, 0, 0);
        check.register("part of row 2, column 0", forms, 1, "5");
    }

    /** Rows and columns that a matrix had before are neither there nor come back. */
    private static void smallerAndGreater(Check check) {
        Counted forms = new Counted();
        Check.put(forms, 0, "1 2 3; 4 5 6; 7 8 9");
        forms.part(0, 0, 0, 1, 0, 1);
        check.refused("row 2 is gone", forms, Check.INDEX, () -> forms.sign(0, 2, 0));
        check.refused("column 2 is gone", forms, Check.INDEX, () -> forms.sign(0, 0, 2));
        forms.make(1, 2, 1);
        forms.beside(0, 0, 1);
        check.register("what comes is 0", forms, 0, "1 2 0; 4 5 0");
        forms.determinant(1, 2);
        check.register("one cell", forms, 1, "0");
        forms.unit(0, 1);
        forms.make(0, 3, 3);
        check.register("nothing comes back", forms, 0, "0 0 0; 0 0 0; 0 0 0");
    }
}
