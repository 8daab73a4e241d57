import java.util.Arrays;

/** What every call has alike: which registers, rows and columns there are, and what may be one of them. */
final class Bounds {
    /** A call with the registers that it is given. */
    interface Call {
        void on(Counted forms, int[] registers);
    }

    /** A call with the register, row and column that it is given. */
    interface CellCall {
        void on(Counted forms, int r, int row, int column);
    }

    private static final int[] NO_REGISTERS = {-1, 8, 9, 16, Integer.MIN_VALUE, Integer.MAX_VALUE};

    private Bounds() {
    }

    /**
     * Each of a call's registers may be 0 .. 7; all registers but the first of the call stay as they are.
     * With any other number for one of them the call is refused.
     */
    static void registers(Check check, String what, int count, Call call) {
        for (int place = 0; place < count; place++) {
            for (int r = 0; r < 8; r++) {
                Counted forms = numbered();
                int[] at = threesBut(count, place, r);
                String which = what + " of " + Arrays.toString(at);
                check.due(which + " throws", Check.thrown(() -> call.on(forms, at)), Check.NONE);
                for (int other = 0; other < 8; other++) {
                    if (other != at[0]) {
                        check.register(which + " leaves " + other, forms, other, String.valueOf(other + 1));
                    }
                }
            }
            Counted forms = numbered();
            for (int r : NO_REGISTERS) {
                int[] at = threesBut(count, place, r);
                check.refused(what + " of " + Arrays.toString(at), forms, Check.INDEX, () -> call.on(forms, at));
            }
        }
    }

    private static int[] threesBut(int count, int place, int r) {
        int[] at = new int[count];
        Arrays.fill(at, 3);
        at[place] = r;
        return at;
    }

    /** Each register has one cell, which tells its number. */
    private static Counted numbered() {
        Counted forms = new Counted();
        for (int r = 0; r < 8; r++) {
            forms.set(r, 0, 0, r + 1, 1);
        }
        return forms;
    }

    /** Rows and columns from 0 to the last one may be asked for, and no other, in matrices of any shape. */
    static void cells(Check check, String what, CellCall call) {
        int[][] shapes = {{1, 1}, {2, 3}, {3, 2}, {1, 16}, {16, 1}, {16, 16}};
        for (int[] shape : shapes) {
            Counted forms = new Counted();
            // More rows and columns than there will be: they must be gone.
            forms.make(5, Math.min(shape[0] + 2, 16), Math.min(shape[1] + 2, 16));
            forms.make(5, shape[0], shape[1]);
            forms.set(5, shape[0] - 1, shape[1] - 1, -7, 3);
            forms.set(5, 0, 0, 1, 2);
            int[] rows = {-1, shape[0], shape[0] + 1, 16, 17, Integer.MIN_VALUE, Integer.MAX_VALUE};
            int[] columns = {-1, shape[1], shape[1] + 1, 16, 17, Integer.MIN_VALUE, Integer.MAX_VALUE};
            String where = what + " in " + Arrays.toString(shape);
            for (int i = 0; i < rows.length; i++) {
                int row = rows[i];
                int column = columns[i];
                check.refused(where + ", row " + row, forms, Check.INDEX, () -> call.on(forms, 5, row, 0));
                check.refused(where + ", column " + column, forms, Check.INDEX,
                    () -> call.on(forms, 5, 0, column));
                check.refused(where + ", both", forms, Check.INDEX, () -> call.on(forms, 5, row, column));
            }
            int[][] inside = {{0, 0}, {shape[0] - 1, 0}, {0, shape[1] - 1}, {shape[0] - 1, shape[1] - 1}};
            for (int[] at : inside) {
                check.due(where + ", cell " + Arrays.toString(at),
                    Check.thrown(() -> call.on(forms, 5, at[0], at[1])), Check.NONE);
            }
        }
    }

    /** A call to register 1, or to its own, of a matrix of which one cell is not whole, whichever it is. */
    static void wholeCells(Check check, String what, Call call) {
        for (int i = 0; i < 6; i++) {
            Counted forms = new Counted();
            Check.put(forms, 0, "1 2 3; 4 5 6");
            forms.set(0, i / 3, i % 3, -7, 2);
            for (int to = 0; to < 2; to++) {
                int[] at = {to, 0};
                check.refused(what + " to " + to + ", cell " + i, forms, Check.ARGUMENT, () -> call.on(forms, at));
            }
            forms.set(0, i / 3, i % 3, -8, 2);
            check.due(what + ", whole again", Check.thrown(() -> call.on(forms, new int[] {1, 0})), Check.NONE);
        }
        Counted forms = new Counted();
        int[] at = {2, 1};
        Check.power(forms, 1, 1, 2, 3999);
        check.refused(what + " of the least fraction", forms, Check.ARGUMENT, () -> call.on(forms, at));
        Check.power(forms, 3, 2, 1, 2000);
        Check.fill(forms, 1, 2, 2, 3);
        forms.set(1, 0, 0, 1, 3);
        check.refused(what + ", it is named before WEIGHT", forms, Check.ARGUMENT, () -> call.on(forms, at));
        forms.set(1, 0, 0, 6, 3);
        check.refused(what + ", whole again, too heavy", forms, Check.UNSUPPORTED, () -> call.on(forms, at));
    }
}
