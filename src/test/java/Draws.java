import java.math.BigInteger;
import java.util.Random;

/** Drawn matrices for the tests of the forms. */
final class Draws {
    private final Random random;

    Draws(long seed) {
        random = new Random(seed);
    }

    int upTo(int n) {
        return 1 + random.nextInt(n);
    }

    /** Whole numbers of at most so many bits, at least one of just as many, a part of them 0. */
    BigInteger[][] wholes(int rows, int columns, int bits, int zeroInTen) {
        BigInteger[][] m = new BigInteger[rows][columns];
        for (BigInteger[] row : m) {
            for (int j = 0; j < columns; j++) {
                BigInteger size = random.nextInt(10) < zeroInTen ? BigInteger.ZERO : new BigInteger(bits, random);
                row[j] = random.nextBoolean() ? size : size.negate();
            }
        }
        int i = random.nextInt(rows);
        int j = random.nextInt(columns);
        m[i][j] = m[i][j].abs().setBit(bits - 1);
        return m;
    }

    /** Of at most the given rank, as a product. */
    BigInteger[][] ofRank(int rows, int columns, int rank, int bits) {
        return Wholes.product(wholes(rows, rank, bits, 2), wholes(rank, columns, bits, 2));
    }

    /** Made of the unit matrix by steps on rows: its determinant is 1 or -1. */
    BigInteger[][] invertible(int n, int steps) {
        BigInteger[][] m = new BigInteger[n][n];
        for (int i = 0; i < n; i++) {
            for (int j = 0; j < n; j++) {
                m[i][j] = i == j ? BigInteger.ONE : BigInteger.ZERO;
            }
        }
        for (int s = 0; s < steps && n > 1; s++) {
            int i = random.nextInt(n);
            int k = (i + 1 + random.nextInt(n - 1)) % n;
            BigInteger factor = BigInteger.valueOf(random.nextInt(5) - 2);
            for (int j = 0; j < n; j++) {
                m[i][j] = m[i][j].add(factor.multiply(m[k][j]));
            }
        }
        return m;
    }

    Ratio[][] fractions(int rows, int columns, int most, int zeroInTen) {
        Ratio[][] m = Model.zero(rows, columns);
        for (Ratio[] row : m) {
            for (int j = 0; j < columns; j++) {
                if (random.nextInt(10) >= zeroInTen) {
                    row[j] = Ratio.of(random.nextInt(2 * most + 1) - most, 1 + random.nextInt(most));
                }
            }
        }
        return m;
    }
}
