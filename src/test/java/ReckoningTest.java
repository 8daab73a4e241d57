import java.math.BigInteger;
import java.util.Random;

/**
 * Sums, products, remainders and common divisors of numbers whose limbs are all 0 or all 1 in many
 * places: there the rare steps of long division and of Lehmer's algorithm are met.
 */
public final class ReckoningTest {
    private static final int[] LIMBS = {0, 0, 0, 1, 2, 3, -1, -1, -1, -2, 1 << 31, 1 << 31, (1 << 31) + 1, (1 << 31) - 1,
        1 << 29, 0x7FFF, 0x8000, 0xFFFE};

    private final Check check = new Check();
    private final Random random = new Random(22);
    private Counted forms;

    public static void main(String[] args) {
        ReckoningTest test = new ReckoningTest();
        for (int round = 0; round < 3000; round++) {
            BigInteger a = test.number(round % 7 == 0 ? 30 : 8);
            BigInteger b = test.number(round % 5 == 0 ? 30 : 6);
            test.sums(a, b);
            test.remainder(a, b);
            test.divisor(a, b);
        }
        test.knownDivisions();
        test.fibonacci();
        test.powers();
        test.check.end("ReckoningTest");
    }

    private BigInteger number(int most) {
        int count = 1 + random.nextInt(most);
        BigInteger number = BigInteger.ZERO;
        for (int i = 0; i < count; i++) {
            int limb = random.nextInt(6) == 0 ? random.nextInt() : LIMBS[random.nextInt(LIMBS.length)];
            number = number.shiftLeft(32).or(BigInteger.valueOf(limb & 0xFFFFFFFFL));
        }
        return random.nextBoolean() ? number : number.negate();
    }

    private void sums(BigInteger a, BigInteger b) {
        forms = new Counted();
        put(0, a);
        put(1, b);
        forms.add(2, 0, 1, false);
        is("sum", 2, a.add(b));
        forms.add(2, 0, 1, true);
        is("difference", 2, a.subtract(b));
        forms.multiply(2, 0, 1);
        is("product", 2, a.multiply(b));
    }

    /** The Hermite form of (1 a; 0 b) has the remainder of a by b. */
    private void remainder(BigInteger a, BigInteger b) {
        if (b.signum() == 0 || a.bitLength() > 999 || b.bitLength() > 999) {
            return;
        }
        BigInteger[][] m = {{BigInteger.ONE, a}, {BigInteger.ZERO, b}};
        forms = new Counted();
        Check.put(forms, 0, Model.fractions(m));
        check.due("rank", forms.hermite(1, 0), 2);
        check.due(a + " by " + b, Check.cell(forms, 1, 0, 1).upper, a.mod(b.abs()));
        check.due(a + " by " + b, Check.cell(forms, 1, 1, 1).upper, b.abs());
    }

    /** The Hermite form of (a 1; b 0) has the divisor and its factors; a / b is shown in least terms. */
    private void divisor(BigInteger a, BigInteger b) {
        if (a.bitLength() > 999 || b.bitLength() > 999) {
            return;
        }
        BigInteger[][] m = {{a, BigInteger.ONE}, {b, BigInteger.ZERO}};
        forms = new Counted();
        Check.put(forms, 0, Model.fractions(m));
        BigInteger[][] want = Wholes.copy(m);
        check.due("rank", forms.hermite(1, 0), Wholes.hermite(want));
        check.register("of " + a + " and " + b, forms, 1, Model.fractions(want));
        if (b.signum() != 0) {
            put(0, a);
            put(1, b);
            check.holds("division", forms.solve(2, 1, 0));
            check.register(a + " over " + b, forms, 2, new Ratio[][] {{new Ratio(a, b)}});
        }
    }

    /** Known to need the divisor added back, or to have products that are no signed numbers. */
    private void knownDivisions() {
        String[][] pairs = {
            {"800000000000000000000003", "200000000000000000000001"},
            {"00007fff000080000000000000000000", "000080000000000000000001"},
            {"8000000000000000fffffffe00000000", "80000000000000000000ffff"},
            {"80000000000000fffe00000000", "80000000000000ffff"},
            {"800000000000000000000000ffffffff", "80000000000000000000000100000000"},
            {"7fffffffffffffff8000000000000000", "8000000000000000ffffffff"},
        };
        for (String[] pair : pairs) {
            BigInteger a = new BigInteger(pair[0], 16);
            BigInteger b = new BigInteger(pair[1], 16);
            remainder(a, b);
            divisor(a, b);
            divisor(b, a);
        }
    }

    /** The numbers for which Euclid's algorithm needs the most steps. */
    private void fibonacci() {
        BigInteger a = BigInteger.ONE;
        BigInteger b = BigInteger.ONE;
        for (int i = 0; i < 1400; i++) {
            BigInteger next = a.add(b);
            a = b;
            b = next;
            if (i % 13 == 0) {
                divisor(b, a);
                divisor(a, b.multiply(BigInteger.TWO));
            }
        }
    }

    private void powers() {
        for (int e = 1; e < 990; e += 17) {
            BigInteger p = BigInteger.TWO.pow(e);
            divisor(p, p.subtract(BigInteger.ONE));
            divisor(p.add(BigInteger.ONE), p);
            divisor(p, BigInteger.valueOf(6));
            divisor(BigInteger.ONE, p);
            divisor(p, p);
            remainder(p.subtract(BigInteger.ONE), BigInteger.TWO.pow(e / 2).add(BigInteger.ONE));
            remainder(p, BigInteger.TWO.pow(e / 3).subtract(BigInteger.ONE).setBit(0));
        }
    }

    private void put(int r, BigInteger value) {
        Check.put(forms, r, new Ratio[][] {{Ratio.whole(value)}});
    }

    private void is(String what, int r, BigInteger want) {
        check.due(what, Check.cell(forms, r, 0, 0).upper, want);
        check.due(what + " is whole", forms.length(r, 0, 0, true), 1);
    }
}
