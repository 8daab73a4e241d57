import java.util.Arrays;

/**
 * Matrices of exact fractions in eight registers, and the forms that each has just one of.
 *
 * <p>A matrix is held as COMMON and its cells times COMMON, all whole numbers, with no divisor that
 * all of them share. This is unique, so that two matrices are the same when these numbers are. Every
 * result is put together in a draft and copied to its register only when nothing can be refused any
 * more: so a call that throws changes nothing, and a result may go to one of its own registers.
 */
public final class ExactForms {
    private static final int REGISTERS = 8;
    private static final int SIDE = 16;
    private static final int MOST_BITS = 4000;
    private static final int MOST_LIMBS = 20000;
    private static final int MOST_WEIGHT = 2000;
    /** What a register's numbers, which are never longer than MOST_BITS, need. */
    private static final int KEPT_LIMBS = MOST_BITS / 32;
    /** What the numbers that WEIGHT bounds need, and one for a carry. */
    private static final int WEIGHED_LIMBS = MOST_WEIGHT / 32 + 2;
    /** Sums of 16 products of two numbers of 4000 bits need 251 limbs, with a carry 252. */
    private static final int WIDEST = 252;
    /** Far above the rounds that any loop without a bound of its own can need. */
    private static final int ROUNDS = 1_000_000;
    private static final long MASK = 0xFFFFFFFFL;
    private static final long TOP_BIT = 1L << 63;

    private final Matrix[] registers = new Matrix[REGISTERS];
    private final int[] everyColumn = new int[SIDE];
    private final Matrix draft = new Matrix(WIDEST);
    private final Desk desk = new Desk();
    private final Elimination elimination = new Elimination(desk);
    private final Residues residues = new Residues(desk);
    private final Fraction fraction = new Fraction(desk);
    private final Fraction shown = new Fraction(desk);
    /** Which cell was put into least terms last, so that reading its limbs does so only once. */
    private int shownCell = -1;

    public ExactForms() {
        for (int r = 0; r < REGISTERS; r++) {
            registers[r] = new Matrix(KEPT_LIMBS);
        }
        for (int c = 0; c < SIDE; c++) {
            everyColumn[c] = c;
        }
    }

    public void make(int r, int rows, int columns)
            throws IndexOutOfBoundsException, IllegalArgumentException {
        Matrix matrix = register(r);
        if (isNoSide(rows) || isNoSide(columns)) {
            throw new IllegalArgumentException("rows and columns are 1 to 16");
        }
        matrix.clear(rows, columns);
        shownCell = -1;
    }

    public void set(int r, int row, int column, long u, long l)
            throws IndexOutOfBoundsException, IllegalArgumentException, UnsupportedOperationException {
        Matrix matrix = register(r);
        needCell(matrix, row, column);
        if (l == 0) {
            throw new IllegalArgumentException("the lower part is 0");
        }
        draft.copy(matrix);
        if (draft.at(row, column).count > 0) {
            // COMMON of the other cells may be less: what was here counts no more.
            draft.at(row, column).putZero();
            reduceDraft();
        }
        fraction.upper.putLong(u);
        fraction.lower.putLong(l);
        fraction.reduce();
        desk.meet(draft.common, fraction.lower);
        draft.scale(desk);
        draft.at(row, column).product(fraction.upper, desk.rightFactor);
        keepDraft(r);
    }

    public void unit(int to, int n)
            throws IndexOutOfBoundsException, IllegalArgumentException {
        Matrix matrix = register(to);
        if (isNoSide(n)) {
            throw new IllegalArgumentException("rows and columns are 1 to 16");
        }
        matrix.clearToUnit(n);
        shownCell = -1;
    }

    public void add(int to, int a, int b, boolean less)
            throws IndexOutOfBoundsException, IllegalArgumentException, UnsupportedOperationException {
        register(to);
        Matrix first = register(a);
        Matrix second = register(b);
        if (first.rows != second.rows || first.columns != second.columns) {
            throw new IllegalArgumentException("not of one shape");
        }
        draftCommon(first, second, first.columns);
        for (int i = 0; i < first.rows; i++) {
            for (int j = 0; j < first.columns; j++) {
                desk.cross(desk.leftFactor, first.at(i, j), desk.rightFactor, second.at(i, j), less);
                draft.at(i, j).copy(desk.sum);
            }
        }
        reduceDraft();
        keepDraft(to);
    }

    public void multiply(int to, int a, int b)
            throws IndexOutOfBoundsException, IllegalArgumentException, UnsupportedOperationException {
        register(to);
        Matrix first = register(a);
        Matrix second = register(b);
        if (first.columns != second.rows) {
            throw new IllegalArgumentException("not as many columns as rows");
        }
        draft.clear(first.rows, second.columns);
        draft.common.product(first.common, second.common);
        for (int i = 0; i < first.rows; i++) {
            for (int j = 0; j < second.columns; j++) {
                draftProduct(first, second, i, j);
            }
        }
        reduceDraft();
        keepDraft(to);
    }

    public void turn(int to, int a)
            throws IndexOutOfBoundsException {
        register(to);
        Matrix matrix = register(a);
        draft.clear(matrix.columns, matrix.rows);
        draft.common.copy(matrix.common);
        for (int i = 0; i < matrix.rows; i++) {
            for (int j = 0; j < matrix.columns; j++) {
                draft.at(j, i).copy(matrix.at(i, j));
            }
        }
        keepDraft(to);
    }

    public void beside(int to, int a, int b)
            throws IndexOutOfBoundsException, IllegalArgumentException, UnsupportedOperationException {
        register(to);
        Matrix first = register(a);
        Matrix second = register(b);
        if (first.rows != second.rows) {
            throw new IllegalArgumentException("not as many rows");
        }
        if (first.columns + second.columns > SIDE) {
            throw new UnsupportedOperationException("more than 16 columns");
        }
        draftCommon(first, second, first.columns + second.columns);
        for (int i = 0; i < first.rows; i++) {
            for (int j = 0; j < first.columns; j++) {
                draft.at(i, j).product(first.at(i, j), desk.leftFactor);
            }
            for (int j = 0; j < second.columns; j++) {
                draft.at(i, first.columns + j).product(second.at(i, j), desk.rightFactor);
            }
        }
        keepDraft(to);
    }

    public void part(int to, int a, int i, int k, int j, int l)
            throws IndexOutOfBoundsException, IllegalArgumentException {
        register(to);
        Matrix matrix = register(a);
        needCell(matrix, i, j);
        needCell(matrix, k, l);
        if (i > k || j > l) {
            throw new IllegalArgumentException("the first is behind the last");
        }
        draft.clear(k - i + 1, l - j + 1);
        draft.common.copy(matrix.common);
        for (int row = i; row <= k; row++) {
            for (int column = j; column <= l; column++) {
                draft.at(row - i, column - j).copy(matrix.at(row, column));
            }
        }
        reduceDraft();
        keepDraft(to);
    }

    public int echelon(int to, int a)
            throws IndexOutOfBoundsException, UnsupportedOperationException {
        register(to);
        Matrix matrix = register(a);
        elimination.load(matrix, false);
        elimination.weigh();
        elimination.eliminate(matrix.columns);
        elimination.substitute(0);
        draft.clear(matrix.rows, matrix.columns);
        draft.common.copy(elimination.last);
        for (int i = 0; i < elimination.rank; i++) {
            draft.at(i, elimination.pivotColumns[i]).copy(elimination.last);
            for (int c = 0; c < matrix.columns; c++) {
                if (!elimination.isPivot[c]) {
                    draft.at(i, c).copy(elimination.at(i, c));
                }
            }
        }
        int rank = elimination.rank;
        reduceDraft();
        keepDraft(to);
        return rank;
    }

    public int kernel(int to, int a)
            throws IndexOutOfBoundsException, UnsupportedOperationException {
        register(to);
        Matrix matrix = register(a);
        // With the columns backwards the free columns are as far in front as can be,
        // so that the rows they give are the kernel's echelon form as they stand.
        elimination.load(matrix, true);
        elimination.weigh();
        elimination.eliminate(matrix.columns);
        int count = matrix.columns - elimination.rank;
        if (count < 1) {
            return 0;
        }
        elimination.substitute(0);
        draftKernel(count, matrix.columns);
        reduceDraft();
        keepDraft(to);
        return count;
    }

    public boolean solve(int to, int a, int b)
            throws IndexOutOfBoundsException, IllegalArgumentException, UnsupportedOperationException {
        register(to);
        Matrix left = register(a);
        Matrix right = register(b);
        if (left.rows != right.rows) {
            throw new IllegalArgumentException("not as many rows");
        }
        elimination.load(left, false);
        elimination.append(right);
        elimination.weigh();
        elimination.eliminate(left.columns);
        if (elimination.hasMoreBehind(left.columns)) {
            return false;
        }
        draftSolution(left.columns, right.columns);
        reduceDraft();
        keepDraft(to);
        return true;
    }

    public boolean invert(int to, int a)
            throws IndexOutOfBoundsException, IllegalArgumentException, UnsupportedOperationException {
        register(to);
        Matrix matrix = register(a);
        if (matrix.rows != matrix.columns) {
            throw new IllegalArgumentException("not square");
        }
        int n = matrix.rows;
        draft.clearToUnit(n);
        elimination.load(matrix, false);
        elimination.append(draft);
        elimination.weigh();
        elimination.eliminate(n);
        if (elimination.rank < n) {
            return false;
        }
        draftSolution(n, n);
        reduceDraft();
        keepDraft(to);
        return true;
    }

    public void determinant(int to, int a)
            throws IndexOutOfBoundsException, IllegalArgumentException, UnsupportedOperationException {
        register(to);
        Matrix matrix = register(a);
        if (matrix.rows != matrix.columns) {
            throw new IllegalArgumentException("not square");
        }
        elimination.load(matrix, false);
        elimination.weigh();
        elimination.eliminate(matrix.columns);
        fraction.upper.putZero();
        fraction.lower.putOne();
        if (elimination.rank == matrix.rows) {
            fraction.upper.copy(elimination.last);
            fraction.upper.below = elimination.last.below != elimination.swapped;
            for (int i = 0; i < matrix.rows; i++) {
                fraction.divideBy(elimination.rowFactors[i]);
            }
        }
        draft.clear(1, 1);
        draft.common.copy(fraction.lower);
        draft.at(0, 0).copy(fraction.upper);
        keepDraft(to);
    }

    public int hermite(int to, int a)
            throws IndexOutOfBoundsException, IllegalArgumentException, UnsupportedOperationException {
        register(to);
        Matrix matrix = register(a);
        needWhole(matrix);
        elimination.load(matrix, false);
        elimination.weigh();
        elimination.eliminate(matrix.columns);
        int rank = elimination.rank;
        residues.load(matrix, elimination.pivotColumns, rank, elimination.last);
        residues.triangulate();
        draft.clear(matrix.rows, matrix.columns);
        for (int i = 0; i < rank; i++) {
            for (int j = i; j < rank; j++) {
                draft.at(i, elimination.pivotColumns[j]).copy(residues.at(i, j));
            }
        }
        if (rank < matrix.columns) {
            elimination.substitute(0);
            draftFreeColumns();
        }
        keepDraft(to);
        return rank;
    }

    public int smith(int to, int a)
            throws IndexOutOfBoundsException, IllegalArgumentException, UnsupportedOperationException {
        register(to);
        Matrix matrix = register(a);
        needWhole(matrix);
        elimination.load(matrix, false);
        elimination.weigh();
        elimination.eliminate(matrix.columns);
        int rank = elimination.rank;
        residues.load(matrix, everyColumn, matrix.columns, elimination.last);
        draft.clear(matrix.rows, matrix.columns);
        for (int t = 0; t < rank; t++) {
            residues.isolate(t);
            draft.at(t, t).copy(residues.at(t, t));
            residues.divideModulus(t);
        }
        keepDraft(to);
        return rank;
    }

    public int size(int r, boolean columns)
            throws IndexOutOfBoundsException {
        Matrix matrix = register(r);
        return columns ? matrix.columns : matrix.rows;
    }

    public int sign(int r, int row, int column)
            throws IndexOutOfBoundsException {
        Matrix matrix = register(r);
        needCell(matrix, row, column);
        Whole cell = matrix.at(row, column);
        if (cell.count == 0) {
            return 0;
        }
        return cell.below ? -1 : 1;
    }

    public int length(int r, int row, int column, boolean lower)
            throws IndexOutOfBoundsException {
        return shownPart(r, row, column, lower).bits();
    }

    public int limb(int r, int row, int column, boolean lower, int k)
            throws IndexOutOfBoundsException {
        needCell(register(r), row, column);
        if (k < 0) {
            throw new IndexOutOfBoundsException("no such limb");
        }
        return shownPart(r, row, column, lower).limbAt(k);
    }

    public boolean same(int a, int b)
            throws IndexOutOfBoundsException {
        Matrix first = register(a);
        Matrix second = register(b);
        return first.equalTo(second);
    }

    private Matrix register(int r) {
        if (r < 0 || r >= REGISTERS) {
            throw new IndexOutOfBoundsException("no such register");
        }
        return registers[r];
    }

    private static boolean isNoSide(int n) {
        return n < 1 || n > SIDE;
    }

    private static void needCell(Matrix matrix, int row, int column) {
        if (row < 0 || row >= matrix.rows || column < 0 || column >= matrix.columns) {
            throw new IndexOutOfBoundsException("no such row or column");
        }
    }

    private static void needWhole(Matrix matrix) {
        if (!matrix.common.isOne()) {
            throw new IllegalArgumentException("some cell is not whole");
        }
    }

    private Whole shownPart(int r, int row, int column, boolean lower) {
        Matrix matrix = register(r);
        needCell(matrix, row, column);
        int cell = (r * SIDE + row) * SIDE + column;
        if (shownCell != cell) {
            shown.upper.copy(matrix.at(row, column));
            shown.lower.copy(matrix.common);
            shown.reduce();
            shownCell = cell;
        }
        return lower ? shown.lower : shown.upper;
    }

    /**
     * Leaves in the desk what the cells of first and of second are to be multiplied by. Of cells that
     * stay as they are, the least common multiple of both COMMONs is COMMON.
     */
    private void draftCommon(Matrix first, Matrix second, int columns) {
        draft.clear(first.rows, columns);
        desk.meet(first.common, second.common);
        draft.common.product(first.common, desk.leftFactor);
    }

    private void draftProduct(Matrix first, Matrix second, int i, int j) {
        Whole cell = draft.at(i, j);
        for (int m = 0; m < first.columns; m++) {
            desk.left.product(first.at(i, m), second.at(m, j));
            cell.sum(cell, desk.left, false);
        }
    }

    private void draftKernel(int count, int columns) {
        draft.clear(count, columns);
        draft.common.copy(elimination.last);
        int row = count;
        for (int free = 0; free < columns; free++) {
            if (!elimination.isPivot[free] && row > 0) {
                row--;
                draft.at(row, columns - 1 - free).copy(elimination.last);
                for (int i = 0; i < elimination.rank; i++) {
                    Whole cell = draft.at(row, columns - 1 - elimination.pivotColumns[i]);
                    cell.copy(elimination.at(i, free));
                    cell.negate();
                }
            }
        }
    }

    private void draftSolution(int rows, int columns) {
        elimination.substitute(rows);
        draft.clear(rows, columns);
        draft.common.copy(elimination.last);
        for (int i = 0; i < elimination.rank; i++) {
            for (int c = 0; c < columns; c++) {
                draft.at(elimination.pivotColumns[i], c).copy(elimination.at(i, rows + c));
            }
        }
    }

    /**
     * The rows of the Hermite form are combinations of those of the echelon form, and their cells in
     * the pivots' columns say which.
     */
    private void draftFreeColumns() {
        for (int c = 0; c < draft.columns; c++) {
            for (int i = 0; i < elimination.rank && !elimination.isPivot[c]; i++) {
                desk.sum.putZero();
                for (int j = i; j < elimination.rank; j++) {
                    desk.left.product(residues.at(i, j), elimination.at(j, c));
                    desk.sum.sum(desk.sum, desk.left, false);
                }
                desk.divider.divide(desk.sum, elimination.last);
                draft.at(i, c).copy(desk.divider.quotient);
            }
        }
    }

    private void reduceDraft() {
        if (draft.common.below) {
            draft.negate();
        }
        desk.commonDivisor(draft, 0, draft.rows);
        if (!desk.divisor.isOne()) {
            draft.divide(desk);
        }
    }

    private void keepDraft(int to) {
        if (draft.isTooLong()) {
            throw new UnsupportedOperationException("lengths or limbs beyond their bounds");
        }
        registers[to].copy(draft);
        shownCell = -1;
    }

    /**
     * A whole number of any sign: its size in limbs of 32 bits, the lowest first, none of 0 on top. The
     * limbs are made once, as many as the number's place can ever need, so that no call makes any.
     */
    private static final class Whole {
        final int[] limbs;
        int count;
        boolean below;

        Whole(int width) {
            limbs = new int[width];
        }

        void needRoom(int n) {
            if (n > limbs.length) {
                throw new UnsupportedOperationException("a number beyond all bounds");
            }
        }

        void putZero() {
            count = 0;
            below = false;
        }

        void putOne() {
            limbs[0] = 1;
            count = 1;
            below = false;
        }

        void putLong(long value) {
            // The least long has no long as its size, but its bits are those of its size.
            long magnitude = value < 0 ? -value : value;
            limbs[0] = (int) magnitude;
            limbs[1] = (int) (magnitude >>> 32);
            count = 2;
            below = value < 0;
            trim();
        }

        void copy(Whole other) {
            needRoom(other.count);
            System.arraycopy(other.limbs, 0, limbs, 0, other.count);
            count = other.count;
            below = other.below;
        }

        void trim() {
            while (count > 0 && limbs[count - 1] == 0) {
                count--;
            }
            if (count == 0) {
                below = false;
            }
        }

        void negate() {
            below = count > 0 && !below;
        }

        boolean isOne() {
            return count == 1 && limbs[0] == 1 && !below;
        }

        int limbAt(int k) {
            return k < count ? limbs[k] : 0;
        }

        int bits() {
            return count == 0 ? 0 : 32 * (count - 1) + bitsOf(limbs[count - 1]);
        }

        static int bitsOf(int limb) {
            int bits = 0;
            int rest = limb;
            for (int half = 16; half > 0; half >>= 1) {
                if (rest >>> half != 0) {
                    bits += half;
                    rest >>>= half;
                }
            }
            return bits + rest;
        }

        /** The bits from the given one on, of which there must not be more than 64. */
        long bitsFrom(int bit) {
            int k = bit >> 5;
            int shift = bit & 31;
            long low = limbAt(k) & MASK | (long) limbAt(k + 1) << 32;
            if (shift == 0) {
                return low;
            }
            return low >>> shift | (long) limbAt(k + 2) << 64 - shift;
        }

        int compareSizes(Whole other) {
            if (count != other.count) {
                return count < other.count ? -1 : 1;
            }
            for (int i = count - 1; i >= 0; i--) {
                if (limbs[i] != other.limbs[i]) {
                    return (limbs[i] & MASK) < (other.limbs[i] & MASK) ? -1 : 1;
                }
            }
            return 0;
        }

        boolean equalTo(Whole other) {
            return below == other.below && compareSizes(other) == 0;
        }

        /** This becomes a + b or a - b; it may be one of them. */
        void sum(Whole a, Whole b, boolean less) {
            boolean otherBelow = b.below != less;
            if (a.below == otherBelow) {
                addSizes(a, b, a.below);
            } else if (a.compareSizes(b) >= 0) {
                subtractSizes(a, b, a.below);
            } else {
                subtractSizes(b, a, otherBelow);
            }
        }

        private void addSizes(Whole a, Whole b, boolean resultBelow) {
            Whole longer = a.count >= b.count ? a : b;
            Whole shorter = a.count >= b.count ? b : a;
            int n = longer.count;
            int m = shorter.count;
            needRoom(n + 1);
            int[] to = limbs;
            int[] from = longer.limbs;
            int[] more = shorter.limbs;
            long carry = 0;
            for (int i = 0; i < m; i++) {
                carry += (from[i] & MASK) + (more[i] & MASK);
                to[i] = (int) carry;
                carry >>>= 32;
            }
            for (int i = m; i < n; i++) {
                carry += from[i] & MASK;
                to[i] = (int) carry;
                carry >>>= 32;
            }
            to[n] = (int) carry;
            count = n + 1;
            below = resultBelow;
            trim();
        }

        private void subtractSizes(Whole larger, Whole smaller, boolean resultBelow) {
            int n = larger.count;
            int m = smaller.count;
            needRoom(n);
            int[] to = limbs;
            int[] from = larger.limbs;
            int[] less = smaller.limbs;
            long borrow = 0;
            for (int i = 0; i < m; i++) {
                borrow += (from[i] & MASK) - (less[i] & MASK);
                to[i] = (int) borrow;
                borrow >>= 32;
            }
            for (int i = m; i < n; i++) {
                borrow += from[i] & MASK;
                to[i] = (int) borrow;
                borrow >>= 32;
            }
            count = n;
            below = resultBelow;
            trim();
        }

        /** This becomes a b; it must be neither of them. */
        void product(Whole a, Whole b) {
            if (a.count == 0 || b.count == 0) {
                putZero();
                return;
            }
            int n = b.count;
            needRoom(a.count + n);
            int[] to = limbs;
            int[] from = b.limbs;
            Arrays.fill(to, 0, n, 0);
            for (int i = 0; i < a.count; i++) {
                long factor = a.limbs[i] & MASK;
                long carry = 0;
                for (int j = 0; j < n; j++) {
                    carry += factor * (from[j] & MASK) + (to[i + j] & MASK);
                    to[i + j] = (int) carry;
                    carry >>>= 32;
                }
                to[i + n] = (int) carry;
            }
            count = a.count + n;
            below = a.below != b.below;
            trim();
        }
    }

    /** Division with the remainder's sign that of the number divided. */
    private static final class Divider {
        Whole quotient = new Whole(WIDEST);
        Whole remainder = new Whole(WIDEST);
        private final int[] high = new int[WIDEST + 1];
        private final int[] low = new int[WIDEST + 1];

        void divide(Whole a, Whole b) {
            boolean quotientBelow = a.below != b.below;
            boolean remainderBelow = a.below;
            if (b.count == 0 || a.compareSizes(b) < 0) {
                quotient.putZero();
                remainder.copy(a);
                return;
            }
            if (b.count == 1) {
                divideByLimb(a, b.limbs[0] & MASK);
            } else {
                divideByMore(a, b);
            }
            quotient.below = quotientBelow;
            quotient.trim();
            remainder.below = remainderBelow;
            remainder.trim();
        }

        private void divideByLimb(Whole a, long divisor) {
            quotient.needRoom(a.count);
            quotient.count = a.count;
            long rest = 0;
            if (divisor == 1) {
                System.arraycopy(a.limbs, 0, quotient.limbs, 0, a.count);
            } else if (divisor > 1) {
                for (int i = a.count - 1; i >= 0; i--) {
                    long number = rest << 32 | a.limbs[i] & MASK;
                    // Half of it is not below 0 as a long; what that loses is less than a divisor.
                    long part = (number >>> 1) / divisor << 1;
                    rest = number - part * divisor;
                    if (rest >= divisor) {
                        rest -= divisor;
                        part++;
                    }
                    quotient.limbs[i] = (int) part;
                }
            }
            remainder.limbs[0] = (int) rest;
            remainder.count = 1;
        }

        /** Knuth's algorithm D: both numbers are shifted until the divisor's top bit is set. */
        private void divideByMore(Whole a, Whole b) {
            int n = b.count;
            int shift = 32 - Whole.bitsOf(b.limbs[n - 1]);
            shiftUp(a, high, shift);
            shiftUp(b, low, shift);
            quotient.needRoom(a.count - n + 1);
            quotient.count = a.count - n + 1;
            for (int j = a.count - n; j >= 0; j--) {
                long part = estimate(j + n, low[n - 1] & MASK, low[n - 2] & MASK);
                if (takeAway(part, j, n)) {
                    giveBack(j, n);
                    part--;
                }
                quotient.limbs[j] = (int) part;
            }
            remainder.needRoom(n);
            remainder.count = n;
            for (int i = 0; i < n; i++) {
                long both = high[i] & MASK | (i + 1 < n ? (long) high[i + 1] << 32 : 0);
                remainder.limbs[i] = (int) (both >>> shift);
            }
        }

        private static void shiftUp(Whole from, int[] to, int shift) {
            long carry = 0;
            for (int i = 0; i < from.count; i++) {
                carry |= (from.limbs[i] & MASK) << shift;
                to[i] = (int) carry;
                carry >>>= 32;
            }
            to[from.count] = (int) carry;
        }

        /** The limb of the quotient from the three top limbs: right, or rarely one too great. */
        private long estimate(int top, long lead, long next) {
            long number = (long) high[top] << 32 | high[top - 1] & MASK;
            long part = MASK;
            long rest = (high[top - 1] & MASK) + lead;
            if ((high[top] & MASK) < lead) {
                part = (number >>> 1) / lead << 1;
                rest = number - part * lead;
                if (rest >= lead) {
                    rest -= lead;
                    part++;
                }
            }
            for (int i = 0; i < 2 && rest <= MASK; i++) {
                long behind = rest << 32 | high[top - 2] & MASK;
                if (part * next + TOP_BIT <= behind + TOP_BIT) {
                    break;
                }
                part--;
                rest += lead;
            }
            return part;
        }

        /** Whether more was taken away than there was. */
        private boolean takeAway(long part, int from, int n) {
            long carry = 0;
            long borrow = 0;
            for (int i = 0; i < n; i++) {
                carry += part * (low[i] & MASK);
                borrow += (high[from + i] & MASK) - (carry & MASK);
                high[from + i] = (int) borrow;
                carry >>>= 32;
                borrow >>= 32;
            }
            borrow += (high[from + n] & MASK) - carry;
            high[from + n] = (int) borrow;
            return borrow < 0;
        }

        private void giveBack(int from, int n) {
            long carry = 0;
            for (int i = 0; i < n; i++) {
                carry += (high[from + i] & MASK) + (low[i] & MASK);
                high[from + i] = (int) carry;
                carry >>>= 32;
            }
            high[from + n] += (int) carry;
        }
    }

    /**
     * Euclid's algorithm as Lehmer sped it up: many steps are found from the leading bits alone, and
     * only their product is applied to the whole numbers.
     */
    private static final class Euclid {
        private static final int WINDOW = 62;
        private static final long FACTOR_LIMIT = 1L << 31;
        private static final int MOST_STEPS = 64;

        /** In the end the greatest common divisor. */
        Whole x = new Whole(WIDEST);
        /** In the end how often the first number is in that divisor, as its sum with the second. */
        Whole factor = new Whole(WIDEST);
        private Whole y = new Whole(WIDEST);
        private Whole otherFactor = new Whole(WIDEST);
        private Whole spare = new Whole(WIDEST);
        private final Divider divider;
        private boolean odd;
        private long a;
        private long b;
        private long c;
        private long d;

        Euclid(Divider divider) {
            this.divider = divider;
        }

        /** Only sizes count. With factors, x is factor times the first but for a multiple of the second. */
        void run(Whole first, Whole second, boolean factors) {
            x.copy(first);
            y.copy(second);
            x.below = false;
            y.below = false;
            factor.putOne();
            otherFactor.putZero();
            odd = false;
            if (x.compareSizes(y) < 0) {
                exchange();
            }
            for (int round = 0; round < ROUNDS && y.count > 0; round++) {
                guessSteps();
                if (b == 0) {
                    divideOnce(factors);
                } else {
                    applySteps();
                    if (factors) {
                        applyStepsToFactors();
                    }
                }
            }
            factor.below = odd && factor.count > 0;
        }

        private void exchange() {
            Whole oldX = x;
            x = y;
            y = oldX;
            Whole oldFactor = factor;
            factor = otherFactor;
            otherFactor = oldFactor;
            odd = !odd;
        }

        private void divideOnce(boolean factors) {
            divider.divide(x, y);
            Whole oldX = x;
            x = y;
            y = divider.remainder;
            divider.remainder = oldX;
            odd = !odd;
            if (factors) {
                spare.product(divider.quotient, otherFactor);
                spare.sum(spare, factor, false);
                Whole oldFactor = factor;
                factor = otherFactor;
                otherFactor = spare;
                spare = oldFactor;
            }
        }

        /** Finds a, b, c, d: the steps turn x and y into a x + b y and c x + d y. */
        private void guessSteps() {
            a = 1;
            b = 0;
            c = 0;
            d = 1;
            int shift = Math.max(0, x.bits() - WINDOW);
            long p = x.bitsFrom(shift);
            long q = y.bitsFrom(shift);
            for (int step = 0; step < MOST_STEPS; step++) {
                long part = shift == 0 ? quotientOf(p, q) : sureQuotient(p, q);
                if (part >= FACTOR_LIMIT) {
                    return;
                }
                long nextC = a - part * c;
                long nextD = b - part * d;
                if (Math.abs(nextC) >= FACTOR_LIMIT || Math.abs(nextD) >= FACTOR_LIMIT) {
                    return;
                }
                a = c;
                b = d;
                c = nextC;
                d = nextD;
                long rest = p - part * q;
                p = q;
                q = rest;
                odd = !odd;
            }
        }

        private static long quotientOf(long p, long q) {
            return q > 0 ? p / q : FACTOR_LIMIT;
        }

        /** The quotient, if it is the same whatever bits stand behind the windows. */
        private long sureQuotient(long p, long q) {
            if (q + c <= 0 || q + d <= 0) {
                return FACTOR_LIMIT;
            }
            long part = (p + a) / (q + c);
            return part == (p + b) / (q + d) ? part : FACTOR_LIMIT;
        }

        private void applySteps() {
            int n = x.count;
            widen(y, n);
            int[] limbsX = x.limbs;
            int[] limbsY = y.limbs;
            long sumX = 0;
            long sumY = 0;
            for (int i = 0; i < n; i++) {
                long limbX = limbsX[i] & MASK;
                long limbY = limbsY[i] & MASK;
                sumX += a * limbX + b * limbY;
                sumY += c * limbX + d * limbY;
                limbsX[i] = (int) sumX;
                limbsY[i] = (int) sumY;
                sumX >>= 32;
                sumY >>= 32;
            }
            x.trim();
            y.trim();
        }

        /** The factors' signs alternate, so that their sizes only grow. */
        private void applyStepsToFactors() {
            int n = Math.max(factor.count, otherFactor.count) + 1;
            widen(factor, n);
            widen(otherFactor, n);
            int[] limbs = factor.limbs;
            int[] otherLimbs = otherFactor.limbs;
            long sizeA = Math.abs(a);
            long sizeB = Math.abs(b);
            long sizeC = Math.abs(c);
            long sizeD = Math.abs(d);
            long sum = 0;
            long otherSum = 0;
            for (int i = 0; i < n; i++) {
                long low = limbs[i] & MASK;
                long otherLow = otherLimbs[i] & MASK;
                sum += sizeA * low + sizeB * otherLow;
                otherSum += sizeC * low + sizeD * otherLow;
                limbs[i] = (int) sum;
                otherLimbs[i] = (int) otherSum;
                sum >>>= 32;
                otherSum >>>= 32;
            }
            factor.trim();
            otherFactor.trim();
        }

        private static void widen(Whole number, int n) {
            number.needRoom(n);
            for (int i = number.count; i < n; i++) {
                number.limbs[i] = 0;
            }
            number.count = n;
        }
    }

    /** What all parts of the program reckon with, made once and used again by every call. */
    private static final class Desk {
        final Divider divider = new Divider();
        final Euclid euclid = new Euclid(divider);
        final Whole left = new Whole(WIDEST);
        final Whole right = new Whole(WIDEST);
        final Whole sum = new Whole(WIDEST);
        final Whole divisor = new Whole(WIDEST);
        final Whole leftFactor = new Whole(WIDEST);
        final Whole rightFactor = new Whole(WIDEST);

        /** Puts into sum: a x + b y, or a x - b y. */
        void cross(Whole a, Whole x, Whole b, Whole y, boolean less) {
            left.product(a, x);
            right.product(b, y);
            sum.sum(left, right, less);
        }

        /** Puts into divisor what COMMON and all cells of these rows share. */
        void commonDivisor(Matrix matrix, int fromRow, int behindRow) {
            divisor.copy(matrix.common);
            for (int i = fromRow; i < behindRow && !divisor.isOne(); i++) {
                for (int j = 0; j < matrix.columns && !divisor.isOne(); j++) {
                    if (matrix.at(i, j).count > 0) {
                        euclid.run(matrix.at(i, j), divisor, false);
                        divisor.copy(euclid.x);
                    }
                }
            }
        }

        /** Puts into the factors what makes both numbers their least common multiple. */
        void meet(Whole first, Whole second) {
            euclid.run(first, second, false);
            divider.divide(second, euclid.x);
            leftFactor.copy(divider.quotient);
            divider.divide(first, euclid.x);
            rightFactor.copy(divider.quotient);
        }
    }

    /** A fraction of two whole numbers. */
    private static final class Fraction {
        final Whole upper = new Whole(WIDEST);
        final Whole lower = new Whole(WIDEST);
        private final Desk desk;

        Fraction(Desk desk) {
            this.desk = desk;
        }

        /** To least terms; the lower part must not be 0. */
        void reduce() {
            if (lower.below) {
                lower.negate();
                upper.negate();
            }
            if (lower.isOne()) {
                return;
            }
            desk.euclid.run(upper, lower, false);
            desk.divider.divide(upper, desk.euclid.x);
            upper.copy(desk.divider.quotient);
            desk.divider.divide(lower, desk.euclid.x);
            lower.copy(desk.divider.quotient);
        }

        /** Keeps least terms; the lower part only grows, so that it is refused as soon as too long. */
        void divideBy(Whole number) {
            desk.euclid.run(upper, number, false);
            desk.divider.divide(upper, desk.euclid.x);
            upper.copy(desk.divider.quotient);
            desk.divider.divide(number, desk.euclid.x);
            desk.left.product(lower, desk.divider.quotient);
            lower.copy(desk.left);
            if (lower.bits() > MOST_BITS) {
                throw new UnsupportedOperationException("a length beyond its bound");
            }
        }
    }

    /** COMMON, and the cells times COMMON. */
    private static final class Matrix {
        int rows = 1;
        int columns = 1;
        final Whole common;
        private final Whole[] cells = new Whole[SIDE * SIDE];

        Matrix(int width) {
            for (int i = 0; i < SIDE * SIDE; i++) {
                cells[i] = new Whole(width);
            }
            common = new Whole(width);
            common.limbs[0] = 1;
            common.count = 1;
        }

        Whole at(int row, int column) {
            return cells[row * SIDE + column];
        }

        void clear(int newRows, int newColumns) {
            rows = newRows;
            columns = newColumns;
            common.putOne();
            for (int i = 0; i < rows; i++) {
                for (int j = 0; j < columns; j++) {
                    at(i, j).putZero();
                }
            }
        }

        void clearToUnit(int n) {
            clear(n, n);
            for (int i = 0; i < n; i++) {
                at(i, i).putOne();
            }
        }

        void copy(Matrix other) {
            rows = other.rows;
            columns = other.columns;
            common.copy(other.common);
            for (int i = 0; i < rows; i++) {
                for (int j = 0; j < columns; j++) {
                    at(i, j).copy(other.at(i, j));
                }
            }
        }

        void negate() {
            common.negate();
            for (int i = 0; i < rows; i++) {
                for (int j = 0; j < columns; j++) {
                    at(i, j).negate();
                }
            }
        }

        /** Makes COMMON and the cells greater by the desk's left factor. */
        void scale(Desk desk) {
            if (desk.leftFactor.isOne()) {
                return;
            }
            desk.left.product(common, desk.leftFactor);
            common.copy(desk.left);
            for (int i = 0; i < rows; i++) {
                for (int j = 0; j < columns; j++) {
                    desk.left.product(at(i, j), desk.leftFactor);
                    at(i, j).copy(desk.left);
                }
            }
        }

        /** Makes COMMON and the cells smaller by the desk's divisor. */
        void divide(Desk desk) {
            desk.divider.divide(common, desk.divisor);
            common.copy(desk.divider.quotient);
            for (int i = 0; i < rows; i++) {
                for (int j = 0; j < columns; j++) {
                    desk.divider.divide(at(i, j), desk.divisor);
                    at(i, j).copy(desk.divider.quotient);
                }
            }
        }

        boolean isTooLong() {
            boolean tooLong = common.bits() > MOST_BITS;
            int limbs = common.count;
            for (int i = 0; i < rows; i++) {
                for (int j = 0; j < columns; j++) {
                    tooLong |= at(i, j).bits() > MOST_BITS;
                    limbs += at(i, j).count;
                }
            }
            return tooLong || limbs > MOST_LIMBS;
        }

        boolean equalTo(Matrix other) {
            if (rows != other.rows || columns != other.columns || !common.equalTo(other.common)) {
                return false;
            }
            for (int i = 0; i < rows; i++) {
                for (int j = 0; j < columns; j++) {
                    if (!at(i, j).equalTo(other.at(i, j))) {
                        return false;
                    }
                }
            }
            return true;
        }
    }

    /**
     * Elimination without fractions, by Bareiss: every cell that it meets is a determinant of cells of
     * the matrix whose rows were made whole, so that WEIGHT bounds its length.
     */
    private static final class Elimination {
        private static final int WIDTH = 2 * SIDE;

        final Whole[] rowFactors = new Whole[SIDE];
        final int[] pivotColumns = new int[SIDE];
        final boolean[] isPivot = new boolean[WIDTH];
        /** The last pivot, of which the echelon form's cells are fractions; 1 before there is one. */
        final Whole last = new Whole(WEIGHED_LIMBS);
        int rank;
        boolean swapped;
        private int rows;
        private int width;
        private final Whole[] grid = new Whole[SIDE * WIDTH];
        private final Whole otherFactor = new Whole(KEPT_LIMBS);
        private final Desk desk;

        Elimination(Desk desk) {
            this.desk = desk;
            for (int i = 0; i < SIDE; i++) {
                rowFactors[i] = new Whole(KEPT_LIMBS);
            }
            for (int i = 0; i < SIDE * WIDTH; i++) {
                grid[i] = new Whole(WEIGHED_LIMBS);
            }
        }

        Whole at(int row, int column) {
            return grid[row * WIDTH + column];
        }

        /** Takes the matrix, each row times the least number that makes it whole. */
        void load(Matrix matrix, boolean backwards) {
            rows = matrix.rows;
            width = matrix.columns;
            for (int i = 0; i < rows; i++) {
                desk.commonDivisor(matrix, i, i + 1);
                desk.divider.divide(matrix.common, desk.divisor);
                rowFactors[i].copy(desk.divider.quotient);
                for (int j = 0; j < width; j++) {
                    desk.divider.divide(matrix.at(i, j), desk.divisor);
                    put(i, backwards ? width - 1 - j : j, desk.divider.quotient);
                }
            }
        }

        /** Takes one more matrix to the right of the first, and makes the longer rows whole. */
        void append(Matrix matrix) {
            for (int i = 0; i < rows; i++) {
                desk.commonDivisor(matrix, i, i + 1);
                desk.divider.divide(matrix.common, desk.divisor);
                otherFactor.copy(desk.divider.quotient);
                desk.meet(rowFactors[i], otherFactor);
                for (int j = 0; j < width; j++) {
                    desk.left.product(at(i, j), desk.leftFactor);
                    put(i, j, desk.left);
                }
                for (int j = 0; j < matrix.columns; j++) {
                    desk.divider.divide(matrix.at(i, j), desk.divisor);
                    desk.left.product(desk.divider.quotient, desk.rightFactor);
                    put(i, width + j, desk.left);
                }
            }
            width += matrix.columns;
        }

        /** WEIGHT is never below a cell's length, so that a cell too long for it is refused at once. */
        private void put(int row, int column, Whole value) {
            if (value.bits() > MOST_WEIGHT) {
                throw new UnsupportedOperationException("WEIGHT is above 2000");
            }
            at(row, column).copy(value);
        }

        void weigh() {
            int longest = 0;
            for (int i = 0; i < rows; i++) {
                for (int j = 0; j < width; j++) {
                    longest = Math.max(longest, at(i, j).bits());
                }
            }
            int k = Math.min(rows, width);
            int e = 0;
            while (e < SIDE && 1 << e < k) {
                e++;
            }
            if (k * (longest + e) > MOST_WEIGHT) {
                throw new UnsupportedOperationException("WEIGHT is above 2000");
            }
        }

        /** Pivots are looked for in the columns before the limit alone. */
        void eliminate(int limit) {
            rank = 0;
            swapped = false;
            last.putOne();
            for (int c = 0; c < width; c++) {
                isPivot[c] = false;
                if (c < limit && rank < rows && findPivot(c)) {
                    for (int i = rank + 1; i < rows; i++) {
                        clearRow(i, c);
                    }
                    last.copy(at(rank, c));
                    pivotColumns[rank] = c;
                    isPivot[c] = true;
                    rank++;
                }
            }
        }

        private boolean findPivot(int column) {
            for (int i = rank; i < rows; i++) {
                if (at(i, column).count > 0) {
                    if (i > rank) {
                        swapRows(i, rank);
                    }
                    return true;
                }
            }
            return false;
        }

        private void swapRows(int i, int k) {
            for (int c = 0; c < width; c++) {
                Whole old = at(i, c);
                grid[i * WIDTH + c] = at(k, c);
                grid[k * WIDTH + c] = old;
            }
            swapped = !swapped;
        }

        private void clearRow(int i, int column) {
            for (int c = column + 1; c < width; c++) {
                if (at(i, c).count > 0 || at(rank, c).count > 0) {
                    desk.cross(at(rank, column), at(i, c), at(i, column), at(rank, c), true);
                    desk.divider.divide(desk.sum, last);
                    at(i, c).copy(desk.divider.quotient);
                }
            }
            at(i, column).putZero();
        }

        /** Whether a row without a pivot has a cell that is not 0 from the given column on. */
        boolean hasMoreBehind(int column) {
            for (int i = rank; i < rows; i++) {
                for (int c = column; c < width; c++) {
                    if (at(i, c).count > 0) {
                        return true;
                    }
                }
            }
            return false;
        }

        /**
         * From the given column on, all columns but the pivots' become those of the echelon form times
         * the last pivot. The pivots' columns stay as they are: the rows above still need them.
         */
        void substitute(int from) {
            for (int c = from; c < width; c++) {
                for (int i = rank - 2; i >= 0 && !isPivot[c]; i--) {
                    desk.sum.product(last, at(i, c));
                    for (int k = i + 1; k < rank; k++) {
                        desk.left.product(at(i, pivotColumns[k]), at(k, c));
                        desk.sum.sum(desk.sum, desk.left, true);
                    }
                    desk.divider.divide(desk.sum, at(i, pivotColumns[i]));
                    at(i, c).copy(desk.divider.quotient);
                }
            }
        }
    }

    /**
     * Whole numbers from 0 to less than a modulus, in lines and places, for the Hermite and the Smith
     * form. The modulus is a determinant of the matrix that the product of the form's numbers divides:
     * so reckoning with remainders loses nothing, and keeps all cells short.
     */
    private static final class Residues {
        private int lines;
        private int places;
        /** Lines are rows, or columns when turned over: so one method clears both. */
        private int lineStep = SIDE;
        private int placeStep = 1;
        private final Whole[] cells = new Whole[SIDE * SIDE];
        private final Whole modulus = new Whole(WEIGHED_LIMBS);
        private final Whole firstFactor = new Whole(WIDEST);
        private final Whole secondFactor = new Whole(WIDEST);
        private final Whole firstRest = new Whole(WIDEST);
        private final Whole secondRest = new Whole(WIDEST);
        private final Whole spare = new Whole(WIDEST);
        private final Desk desk;

        Residues(Desk desk) {
            this.desk = desk;
            for (int i = 0; i < SIDE * SIDE; i++) {
                cells[i] = new Whole(WEIGHED_LIMBS);
            }
        }

        Whole at(int line, int place) {
            return cells[line * lineStep + place * placeStep];
        }

        /** Takes as many of the chosen columns as there are to be places. */
        void load(Matrix matrix, int[] chosen, int newPlaces, Whole newModulus) {
            lines = matrix.rows;
            places = newPlaces;
            lineStep = SIDE;
            placeStep = 1;
            modulus.copy(newModulus);
            modulus.below = false;
            for (int i = 0; i < lines; i++) {
                for (int j = 0; j < places; j++) {
                    keep(matrix.at(i, chosen[j]), at(i, j));
                }
            }
        }

        private void keep(Whole value, Whole target) {
            desk.divider.divide(value, modulus);
            if (desk.divider.remainder.below) {
                target.sum(desk.divider.remainder, modulus, false);
            } else {
                target.copy(desk.divider.remainder);
            }
        }

        private void turnOver() {
            int oldStep = lineStep;
            lineStep = placeStep;
            placeStep = oldStep;
            int oldLines = lines;
            lines = places;
            places = oldLines;
        }

        private void swapLines(int i, int k) {
            for (int p = 0; p < places; p++) {
                Whole old = at(i, p);
                cells[i * lineStep + p * placeStep] = at(k, p);
                cells[k * lineStep + p * placeStep] = old;
            }
        }

        /** Makes the cells of place t behind line t 0, by steps on lines that can be taken back. */
        private void clearBehind(int t) {
            for (int i = t + 1; i < lines; i++) {
                if (at(i, t).count > 0) {
                    if (at(t, t).count == 0) {
                        swapLines(i, t);
                    } else if (findMultiple(i, t)) {
                        subtractLine(i, t, t);
                    } else {
                        desk.euclid.run(at(t, t), at(i, t), true);
                        findFactors(i, t);
                        mixLines(i, t);
                    }
                }
            }
        }

        /** Whether cell t of line t divides that of line i (the lines are swapped for it), how often. */
        private boolean findMultiple(int i, int t) {
            boolean wrongWay = at(t, t).compareSizes(at(i, t)) > 0;
            Whole larger = wrongWay ? at(t, t) : at(i, t);
            Whole smaller = wrongWay ? at(i, t) : at(t, t);
            desk.divider.divide(larger, smaller);
            if (desk.divider.remainder.count > 0) {
                return false;
            }
            firstFactor.copy(desk.divider.quotient);
            if (wrongWay) {
                swapLines(i, t);
            }
            return true;
        }

        /** Takes line t as often as the first factor says from line i, from the given place on. */
        private void subtractLine(int i, int t, int from) {
            for (int p = from; p < places; p++) {
                if (at(t, p).count > 0) {
                    desk.left.product(firstFactor, at(t, p));
                    desk.sum.sum(at(i, p), desk.left, true);
                    keep(desk.sum, at(i, p));
                }
            }
        }

        /** From Euclid's run on both cells: the factors that make their divisor, and their rests by it. */
        private void findFactors(int i, int t) {
            Whole g = desk.euclid.x;
            firstFactor.copy(desk.euclid.factor);
            desk.left.product(firstFactor, at(t, t));
            desk.sum.sum(g, desk.left, true);
            desk.divider.divide(desk.sum, at(i, t));
            secondFactor.copy(desk.divider.quotient);
            desk.divider.divide(at(t, t), g);
            firstRest.copy(desk.divider.quotient);
            desk.divider.divide(at(i, t), g);
            secondRest.copy(desk.divider.quotient);
        }

        /** Cell t of line t becomes the greatest common divisor of both, that of line i 0. */
        private void mixLines(int i, int t) {
            for (int p = t; p < places; p++) {
                if (at(t, p).count > 0 || at(i, p).count > 0) {
                    desk.cross(firstFactor, at(t, p), secondFactor, at(i, p), false);
                    spare.copy(desk.sum);
                    desk.cross(firstRest, at(i, p), secondRest, at(t, p), true);
                    keep(desk.sum, at(i, p));
                    keep(spare, at(t, p));
                }
            }
        }

        /** Makes the Hermite form; the places are columns with a pivot each. */
        void triangulate() {
            for (int t = 0; t < places && t < lines; t++) {
                clearBehind(t);
                joinPivot(t);
                for (int i = 0; i < t; i++) {
                    desk.divider.divide(at(i, t), at(t, t));
                    firstFactor.copy(desk.divider.quotient);
                    at(i, t).copy(desk.divider.remainder);
                    subtractLine(i, t, t + 1);
                }
            }
        }

        /**
         * The pivot becomes the greatest common divisor of itself and the modulus. What the lines make
         * with 0 in this place has all multiples of the modulus over that: it is the next modulus.
         */
        private void joinPivot(int t) {
            Whole pivot = at(t, t);
            desk.euclid.run(pivot, modulus, true);
            firstFactor.copy(desk.euclid.factor);
            pivot.copy(desk.euclid.x);
            divideModulus(t);
            for (int p = t + 1; p < places; p++) {
                desk.left.product(firstFactor, at(t, p));
                keep(desk.left, at(t, p));
            }
        }

        /** Divides the modulus by pivot t, and keeps what is behind that pivot. */
        void divideModulus(int t) {
            if (at(t, t).isOne()) {
                return;
            }
            desk.divider.divide(modulus, at(t, t));
            modulus.copy(desk.divider.quotient);
            for (int i = t + 1; i < lines; i++) {
                for (int p = t + 1; p < places; p++) {
                    keep(at(i, p), at(i, p));
                }
            }
        }

        /** Makes cell t, t the number of the Smith form, and 0 of all cells beside and below it. */
        void isolate(int t) {
            fetchPivot(t);
            for (int round = 0; round < ROUNDS; round++) {
                clearBehind(t);
                turnOver();
                clearBehind(t);
                turnOver();
                if (isClearBehind(t)) {
                    joinModulus(t);
                    int line = lineNotDivided(t);
                    if (line < 0) {
                        return;
                    }
                    copyLine(line, t);
                }
            }
        }

        private void fetchPivot(int t) {
            for (int i = t; i < lines; i++) {
                for (int p = t; p < places; p++) {
                    if (at(i, p).count > 0) {
                        swapLines(i, t);
                        turnOver();
                        swapLines(p, t);
                        turnOver();
                        return;
                    }
                }
            }
        }

        private boolean isClearBehind(int t) {
            for (int i = t + 1; i < lines; i++) {
                if (at(i, t).count > 0) {
                    return false;
                }
            }
            return true;
        }

        private void joinModulus(int t) {
            desk.euclid.run(at(t, t), modulus, false);
            at(t, t).copy(desk.euclid.x);
        }

        /** A line behind t with a cell that pivot t does not divide, or -1. */
        private int lineNotDivided(int t) {
            for (int i = t + 1; i < lines && !at(t, t).isOne(); i++) {
                for (int p = t + 1; p < places; p++) {
                    desk.divider.divide(at(i, p), at(t, t));
                    if (desk.divider.remainder.count > 0) {
                        return i;
                    }
                }
            }
            return -1;
        }

        private void copyLine(int from, int t) {
            for (int p = t + 1; p < places; p++) {
                at(t, p).copy(at(from, p));
            }
        }
    }
}
