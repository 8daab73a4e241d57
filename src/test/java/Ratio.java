import java.math.BigInteger;

/** A fraction in least terms, for the tests' own plain reckoning. */
final class Ratio {
    static final Ratio ZERO = new Ratio(BigInteger.ZERO, BigInteger.ONE);
    static final Ratio ONE = new Ratio(BigInteger.ONE, BigInteger.ONE);

    final BigInteger upper;
    final BigInteger lower;

    Ratio(BigInteger u, BigInteger l) {
        BigInteger g = u.gcd(l);
        if (l.signum() < 0) {
            g = g.negate();
        }
        upper = u.divide(g);
        lower = l.divide(g);
    }

    static Ratio of(long u, long l) {
        return new Ratio(BigInteger.valueOf(u), BigInteger.valueOf(l));
    }

    static Ratio whole(BigInteger u) {
        return new Ratio(u, BigInteger.ONE);
    }

    boolean isZero() {
        return upper.signum() == 0;
    }

    Ratio plus(Ratio o) {
        return new Ratio(upper.multiply(o.lower).add(o.upper.multiply(lower)), lower.multiply(o.lower));
    }

    Ratio minus(Ratio o) {
        return plus(o.times(of(-1, 1)));
    }

    Ratio times(Ratio o) {
        return new Ratio(upper.multiply(o.upper), lower.multiply(o.lower));
    }

    Ratio over(Ratio o) {
        return new Ratio(upper.multiply(o.lower), lower.multiply(o.upper));
    }

    boolean is(Ratio o) {
        return upper.equals(o.upper) && lower.equals(o.lower);
    }

    @Override
    public String toString() {
        return lower.equals(BigInteger.ONE) ? upper.toString() : upper + "/" + lower;
    }
}
