import java.math.BigInteger;

/** The Hermite and the Smith form by plain steps, and the Smith form once more by its definition. */
final class Wholes {
    private Wholes() {
    }

    /** Turns m into its Hermite form; the rank. */
    static int hermite(BigInteger[][] m) {
        int rank = 0;
        for (int c = 0; c < m[0].length && rank < m.length; c++) {
            int least = leastBelow(m, rank, c);
            while (least >= 0) {
                swapRows(m, rank, least);
                for (int i = rank + 1; i < m.length; i++) {
                    subtractRow(m, i, rank, m[i][c].divide(m[rank][c]));
                }
                least = leastBelow(m, rank + 1, c) >= 0 ? leastBelow(m, rank, c) : -1;
            }
            if (m[rank][c].signum() == 0) {
                continue;
            }
            if (m[rank][c].signum() < 0) {
                for (int j = 0; j < m[0].length; j++) {
                    m[rank][j] = m[rank][j].negate();
                }
            }
            for (int i = 0; i < rank; i++) {
                BigInteger[] parts = m[i][c].divideAndRemainder(m[rank][c]);
                subtractRow(m, i, rank, parts[1].signum() < 0 ? parts[0].subtract(BigInteger.ONE) : parts[0]);
            }
            rank++;
        }
        return rank;
    }

    /** Turns m into its Smith form: Hermite forms of it and of it turned, until it is diagonal. */
    static int smith(BigInteger[][] m) {
        BigInteger[][] now = copy(m);
        int rank = hermite(now);
        while (!isDiagonal(now)) {
            now = turned(now);
            hermite(now);
        }
        for (int i = 0; i < rank; i++) {
            for (int k = i + 1; k < rank; k++) {
                BigInteger g = now[i][i].gcd(now[k][k]);
                BigInteger all = now[i][i].divide(g).multiply(now[k][k]);
                now[i][i] = g;
                now[k][k] = all;
            }
        }
        for (BigInteger[] row : m) {
            java.util.Arrays.fill(row, BigInteger.ZERO);
        }
        for (int i = 0; i < rank; i++) {
            m[i][i] = now[i][i];
        }
        return rank;
    }

    /** The greatest common divisor of all determinants of k rows and k columns. */
    static BigInteger divisorOfMinors(BigInteger[][] m, int k) {
        BigInteger g = BigInteger.ZERO;
        for (int rows = 0; rows < 1 << m.length; rows++) {
            for (int columns = 0; columns < 1 << m[0].length; columns++) {
                if (Integer.bitCount(rows) == k && Integer.bitCount(columns) == k) {
                    g = g.gcd(minor(m, rows, columns));
                }
            }
        }
        return g;
    }

    /** By the first row chosen, so that nothing but the definition is used. */
    private static BigInteger minor(BigInteger[][] m, int rows, int columns) {
        if (rows == 0) {
            return BigInteger.ONE;
        }
        int row = Integer.numberOfTrailingZeros(rows);
        BigInteger sum = BigInteger.ZERO;
        boolean odd = false;
        for (int c = 0; c < m[0].length; c++) {
            if ((columns >> c & 1) == 1) {
                BigInteger term = m[row][c].multiply(minor(m, rows & rows - 1, columns & ~(1 << c)));
                sum = odd ? sum.subtract(term) : sum.add(term);
                odd = !odd;
            }
        }
        return sum;
    }

    static BigInteger[][] copy(BigInteger[][] x) {
        BigInteger[][] m = x.clone();
        for (int i = 0; i < x.length; i++) {
            m[i] = x[i].clone();
        }
        return m;
    }

    static BigInteger[][] turned(BigInteger[][] x) {
        BigInteger[][] m = new BigInteger[x[0].length][x.length];
        for (int i = 0; i < x.length; i++) {
            for (int j = 0; j < x[0].length; j++) {
                m[j][i] = x[i][j];
            }
        }
        return m;
    }

    static BigInteger[][] product(BigInteger[][] x, BigInteger[][] y) {
        BigInteger[][] m = new BigInteger[x.length][y[0].length];
        for (int i = 0; i < x.length; i++) {
            for (int j = 0; j < y[0].length; j++) {
                m[i][j] = BigInteger.ZERO;
                for (int k = 0; k < y.length; k++) {
                    m[i][j] = m[i][j].add(x[i][k].multiply(y[k][j]));
                }
            }
        }
        return m;
    }

    private static boolean isDiagonal(BigInteger[][] m) {
        for (int i = 0; i < m.length; i++) {
            for (int j = 0; j < m[0].length; j++) {
                if (i != j && m[i][j].signum() != 0) {
                    return false;
                }
            }
        }
        return true;
    }

    private static int leastBelow(BigInteger[][] m, int from, int column) {
        int least = -1;
        for (int i = from; i < m.length; i++) {
            if (m[i][column].signum() != 0
                    && (least < 0 || m[i][column].abs().compareTo(m[least][column].abs()) < 0)) {
                least = i;
            }
        }
        return least;
    }

    private static void swapRows(BigInteger[][] m, int i, int k) {
        BigInteger[] row = m[i];
        m[i] = m[k];
        m[k] = row;
    }

    private static void subtractRow(BigInteger[][] m, int i, int k, BigInteger factor) {
        if (factor.signum() != 0) {
            for (int j = 0; j < m[0].length; j++) {
                m[i][j] = m[i][j].subtract(factor.multiply(m[k][j]));
            }
        }
    }
}
