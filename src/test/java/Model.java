import java.math.BigInteger;

/**
 * What the document asks, reckoned as plainly as can be: fractions cell by cell, Gauss's elimination on
 * them, and row by row steps of Euclid for the Hermite and the Smith form. A call that the document
 * refuses throws here as well.
 */
final class Model {
    final Ratio[][][] registers = new Ratio[8][][];

    Model() {
        for (int r = 0; r < 8; r++) {
            registers[r] = zero(1, 1);
        }
    }

    void make(int r, int rows, int columns) {
        need(r);
        side(rows);
        side(columns);
        registers[r] = zero(rows, columns);
    }

    void set(int r, int row, int column, long u, long l) {
        cell(r, row, column);
        fits(l != 0);
        Ratio[][] m = copy(registers[r]);
        m[row][column] = Ratio.of(u, l);
        keep(r, m);
    }

    void unit(int to, int n) {
        need(to);
        side(n);
        registers[to] = one(n);
    }

    void add(int to, int a, int b, boolean less) {
        need(to);
        Ratio[][] x = need(a);
        Ratio[][] y = need(b);
        fits(x.length == y.length && x[0].length == y[0].length);
        Ratio[][] m = zero(x.length, x[0].length);
        for (int i = 0; i < x.length; i++) {
            for (int j = 0; j < x[0].length; j++) {
                m[i][j] = less ? x[i][j].minus(y[i][j]) : x[i][j].plus(y[i][j]);
            }
        }
        keep(to, m);
    }

    void multiply(int to, int a, int b) {
        need(to);
        Ratio[][] x = need(a);
        Ratio[][] y = need(b);
        fits(x[0].length == y.length);
        keep(to, product(x, y));
    }

    void turn(int to, int a) {
        need(to);
        keep(to, turned(need(a)));
    }

    void beside(int to, int a, int b) {
        need(to);
        Ratio[][] x = need(a);
        Ratio[][] y = need(b);
        fits(x.length == y.length);
        keep(to, joined(x, y));
    }

    void part(int to, int a, int i, int k, int j, int l) {
        need(to);
        cell(a, i, j);
        cell(a, k, l);
        fits(i <= k && j <= l);
        Ratio[][] m = zero(k - i + 1, l - j + 1);
        for (int row = i; row <= k; row++) {
            for (int column = j; column <= l; column++) {
                m[row - i][column - j] = registers[a][row][column];
            }
        }
        keep(to, m);
    }

    int echelon(int to, int a) {
        need(to);
        Ratio[][] m = copy(need(a));
        weigh(m);
        int rank = reduce(m, m[0].length);
        keep(to, m);
        return rank;
    }

    int kernel(int to, int a) {
        need(to);
        Ratio[][] m = copy(need(a));
        weigh(m);
        int n = m[0].length;
        int rank = reduce(m, n);
        if (rank == n) {
            return 0;
        }
        Ratio[][] k = zero(n - rank, n);
        int row = 0;
        for (int c = 0; c < n; c++) {
            int above = 0;
            boolean pivot = false;
            for (int i = 0; i < rank; i++) {
                int p = first(m[i]);
                pivot |= p == c;
                above += p < c ? 1 : 0;
            }
            if (!pivot) {
                k[row][c] = Ratio.ONE;
                for (int i = 0; i < above; i++) {
                    k[row][first(m[i])] = Ratio.ZERO.minus(m[i][c]);
                }
                row++;
            }
        }
        reduce(k, n);
        keep(to, k);
        return n - rank;
    }

    boolean solve(int to, int a, int b) {
        need(to);
        Ratio[][] x = need(a);
        Ratio[][] y = need(b);
        fits(x.length == y.length);
        Ratio[][] found = solution(x, y);
        if (found == null) {
            return false;
        }
        keep(to, found);
        return true;
    }

    boolean invert(int to, int a) {
        need(to);
        Ratio[][] x = need(a);
        fits(x.length == x[0].length);
        Ratio[][] found = solution(x, one(x.length));
        if (found == null) {
            return false;
        }
        keep(to, found);
        return true;
    }

    void determinant(int to, int a) {
        need(to);
        Ratio[][] x = copy(need(a));
        fits(x.length == x[0].length);
        weigh(x);
        keep(to, new Ratio[][] {{determinantOf(x)}});
    }

    int hermite(int to, int a) {
        need(to);
        BigInteger[][] m = whole(need(a));
        weigh(registers[a]);
        int rank = Wholes.hermite(m);
        keep(to, fractions(m));
        return rank;
    }

    int smith(int to, int a) {
        need(to);
        BigInteger[][] m = whole(need(a));
        weigh(registers[a]);
        int rank = Wholes.smith(m);
        keep(to, fractions(m));
        return rank;
    }

    boolean same(int a, int b) {
        Ratio[][] x = need(a);
        Ratio[][] y = need(b);
        return same(x, y);
    }

    Ratio cell(int r, int row, int column) {
        Ratio[][] m = need(r);
        if (row < 0 || row >= m.length || column < 0 || column >= m[0].length) {
            throw new IndexOutOfBoundsException();
        }
        return m[row][column];
    }

    private Ratio[][] need(int r) {
        if (r < 0 || r > 7) {
            throw new IndexOutOfBoundsException();
        }
        return registers[r];
    }

    private static void side(int n) {
        fits(n >= 1 && n <= 16);
    }

    private static void fits(boolean well) {
        if (!well) {
            throw new IllegalArgumentException();
        }
    }

    private void keep(int to, Ratio[][] m) {
        if (isTooLong(m)) {
            throw new UnsupportedOperationException();
        }
        registers[to] = m;
    }

    static boolean isTooLong(Ratio[][] m) {
        BigInteger common = commonOf(m);
        long limbs = limbs(common);
        boolean tooLong = common.bitLength() > 4000 || m[0].length > 16;
        for (Ratio[] row : m) {
            for (Ratio c : row) {
                BigInteger size = c.upper.abs().multiply(common.divide(c.lower));
                tooLong |= size.bitLength() > 4000;
                limbs += limbs(size);
            }
        }
        return tooLong || limbs > 20000;
    }

    private static long limbs(BigInteger size) {
        return (size.bitLength() + 31) / 32;
    }

    static BigInteger commonOf(Ratio[]... rows) {
        BigInteger common = BigInteger.ONE;
        for (Ratio[] row : rows) {
            for (Ratio c : row) {
                common = common.divide(common.gcd(c.lower)).multiply(c.lower);
            }
        }
        return common;
    }

    static long weight(Ratio[][] m) {
        int longest = 0;
        for (Ratio[] row : m) {
            BigInteger factor = commonOf(row);
            for (Ratio c : row) {
                longest = Math.max(longest, c.upper.abs().multiply(factor).divide(c.lower).bitLength());
            }
        }
        int k = Math.min(m.length, m[0].length);
        int e = 0;
        while ((1 << e) < k) {
            e++;
        }
        return (long) k * (longest + e);
    }

    private static void weigh(Ratio[][] m) {
        if (weight(m) > 2000) {
            throw new UnsupportedOperationException();
        }
    }

    private static Ratio[][] solution(Ratio[][] a, Ratio[][] b) {
        int n = a[0].length;
        Ratio[][] m = joined(a, b);
        weigh(m);
        int rank = reduce(m, n);
        for (int i = rank; i < m.length; i++) {
            if (first(m[i]) < m[i].length) {
                return null;
            }
        }
        Ratio[][] x = zero(n, b[0].length);
        for (int i = 0; i < rank; i++) {
            System.arraycopy(m[i], n, x[first(m[i])], 0, b[0].length);
        }
        return x;
    }

    /** Gauss and Jordan, with pivots in the columns before the limit; the rank. */
    static int reduce(Ratio[][] m, int limit) {
        int rank = 0;
        for (int c = 0; c < limit && rank < m.length; c++) {
            int found = rank;
            while (found < m.length && m[found][c].isZero()) {
                found++;
            }
            if (found == m.length) {
                continue;
            }
            Ratio[] row = m[found];
            m[found] = m[rank];
            m[rank] = row;
            Ratio pivot = row[c];
            for (int j = 0; j < row.length; j++) {
                row[j] = row[j].over(pivot);
            }
            for (int i = 0; i < m.length; i++) {
                Ratio factor = m[i][c];
                if (i != rank && !factor.isZero()) {
                    for (int j = 0; j < row.length; j++) {
                        m[i][j] = m[i][j].minus(row[j].times(factor));
                    }
                }
            }
            rank++;
        }
        return rank;
    }

    static Ratio determinantOf(Ratio[][] x) {
        Ratio[][] m = copy(x);
        int n = m.length;
        Ratio value = Ratio.ONE;
        for (int c = 0; c < n; c++) {
            int found = c;
            while (found < n && m[found][c].isZero()) {
                found++;
            }
            if (found == n) {
                return Ratio.ZERO;
            }
            if (found > c) {
                Ratio[] row = m[found];
                m[found] = m[c];
                m[c] = row;
                value = Ratio.ZERO.minus(value);
            }
            value = value.times(m[c][c]);
            for (int i = c + 1; i < n; i++) {
                Ratio factor = m[i][c].over(m[c][c]);
                for (int j = c; j < n; j++) {
                    m[i][j] = m[i][j].minus(m[c][j].times(factor));
                }
            }
        }
        return value;
    }

    static Ratio[][] product(Ratio[][] x, Ratio[][] y) {
        Ratio[][] m = zero(x.length, y[0].length);
        for (int i = 0; i < x.length; i++) {
            for (int j = 0; j < y[0].length; j++) {
                for (int k = 0; k < y.length; k++) {
                    m[i][j] = m[i][j].plus(x[i][k].times(y[k][j]));
                }
            }
        }
        return m;
    }

    static Ratio[][] joined(Ratio[][] x, Ratio[][] y) {
        int n = x[0].length;
        Ratio[][] m = zero(x.length, n + y[0].length);
        for (int i = 0; i < x.length; i++) {
            System.arraycopy(x[i], 0, m[i], 0, n);
            System.arraycopy(y[i], 0, m[i], n, y[0].length);
        }
        return m;
    }

    static Ratio[][] turned(Ratio[][] x) {
        Ratio[][] m = zero(x[0].length, x.length);
        for (int i = 0; i < x.length; i++) {
            for (int j = 0; j < x[0].length; j++) {
                m[j][i] = x[i][j];
            }
        }
        return m;
    }

    static Ratio[][] zero(int rows, int columns) {
        Ratio[][] m = new Ratio[rows][columns];
        for (Ratio[] row : m) {
            java.util.Arrays.fill(row, Ratio.ZERO);
        }
        return m;
    }

    static Ratio[][] one(int n) {
        Ratio[][] m = zero(n, n);
        for (int i = 0; i < n; i++) {
            m[i][i] = Ratio.ONE;
        }
        return m;
    }

    static Ratio[][] copy(Ratio[][] x) {
        Ratio[][] m = x.clone();
        for (int i = 0; i < x.length; i++) {
            m[i] = x[i].clone();
        }
        return m;
    }

    static boolean same(Ratio[][] x, Ratio[][] y) {
        if (x.length != y.length || x[0].length != y[0].length) {
            return false;
        }
        for (int i = 0; i < x.length; i++) {
            for (int j = 0; j < x[0].length; j++) {
                if (!x[i][j].is(y[i][j])) {
                    return false;
                }
            }
        }
        return true;
    }

    static Ratio[][] fractions(BigInteger[][] x) {
        Ratio[][] m = zero(x.length, x[0].length);
        for (int i = 0; i < x.length; i++) {
            for (int j = 0; j < x[0].length; j++) {
                m[i][j] = Ratio.whole(x[i][j]);
            }
        }
        return m;
    }

    private static BigInteger[][] whole(Ratio[][] x) {
        fits(commonOf(x).equals(BigInteger.ONE));
        BigInteger[][] m = new BigInteger[x.length][x[0].length];
        for (int i = 0; i < x.length; i++) {
            for (int j = 0; j < x[0].length; j++) {
                m[i][j] = x[i][j].upper;
            }
        }
        return m;
    }

    private static int first(Ratio[] row) {
        int c = 0;
        while (c < row.length && row[c].isZero()) {
            c++;
        }
        return c;
    }
}
