import java.math.BigInteger;
import java.util.Random;

/**
 * Single drawn calls on small matrices whose cells are just about as long as the bounds of 4000 and of
 * WEIGHT allow, or a bit longer: each is answered, or refused, as by the plain model.
 */
public final class NearBoundsTest {
    private static final int ROUNDS = 1500;
    private static final int KINDS = 12;
    private static final int[] LENGTHS = {4000, 4000, 4000, 2000, 2000, 1333, 1000, 999, 664, 498};

    private final Check check = new Check();
    private final Random random;
    private Counted forms;
    private Model model;
    private long answer;
    /** How many of the lengths are drawn from: what no call weighs may have the first alone. */
    private int lengths;

    private NearBoundsTest(long seed) {
        random = new Random(seed);
    }

    public static void main(String[] args) {
        NearBoundsTest test = new NearBoundsTest(args.length > 0 ? Long.parseLong(args[0]) : 23);
        int[] seen = new int[KINDS * 5];
        for (int round = 0; round < ROUNDS; round++) {
            test.round(round, seen);
        }
        int met = 0;
        for (int kind = 0; kind < KINDS; kind++) {
            met += seen[kind * 5 + Check.UNSUPPORTED] >= 5 && seen[kind * 5 + Check.NONE] >= 5 ? 1 : 0;
        }
        test.check.due("calls that were both answered and refused", met, KINDS);
        test.check.end("NearBoundsTest");
    }

    private void round(int round, int[] seen) {
        forms = new Counted();
        model = new Model();
        int op = random.nextInt(KINDS);
        lengths = op < 4 ? 4 : LENGTHS.length;
        int rows = 1 + random.nextInt(3);
        int columns = 1 + random.nextInt(3);
        if (op == 3 && random.nextBoolean() || op >= 7 && op <= 8) {
            columns = rows;
        }
        boolean isWhole = op >= 9 && op <= 10;
        put(0, matrix(rows, columns, isWhole));
        put(1, op == 2 ? matrix(columns, 1 + random.nextInt(3), false)
            : matrix(rows, op == 1 ? columns : 1 + random.nextInt(3), false));
        int row = random.nextInt(rows);
        int column = random.nextInt(columns);
        long u = random.nextInt(9) - 4;
        long l = 1 + random.nextInt(8);
        int to = random.nextInt(3);
        String what = "round " + round + ", call " + op + " of " + rows + " by " + columns;
        int got = Check.thrown(() -> answer = onClass(op, to, row, column, u, l));
        long gotAnswer = answer;
        int want = Check.thrown(() -> answer = onModel(op, to, row, column, u, l));
        check.due(what + " throws", Check.name(got), Check.name(want));
        if (want == Check.NONE) {
            check.due(what, gotAnswer, answer);
        }
        for (int r = 0; r < 3; r++) {
            check.register(what + ", register " + r, forms, r, model.registers[r]);
        }
        seen[op * 5 + want]++;
    }

    private void put(int r, Ratio[][] m) {
        Check.putPowers(forms, r, m);
        model.registers[r] = m;
    }

    /** With one long cell or two, the others short; one that a register may hold. */
    private Ratio[][] matrix(int rows, int columns, boolean isWhole) {
        for (int tries = 0; tries < 1000; tries++) {
            Ratio[][] m = Model.zero(rows, columns);
            for (int i = 0; i < rows * columns; i++) {
                m[i / columns][i % columns] = Ratio.of(random.nextInt(7) - 3, isWhole ? 1 : 1 + random.nextInt(3));
            }
            for (int i = random.nextInt(2); i < 2; i++) {
                m[random.nextInt(rows)][random.nextInt(columns)] = longCell(isWhole);
            }
            if (!Model.isTooLong(m)) {
                return m;
            }
        }
        return Model.one(rows);
    }

    private Ratio longCell(boolean isWhole) {
        int e = Math.min(LENGTHS[random.nextInt(lengths)] - random.nextInt(5) + 1, 3999);
        BigInteger size = BigInteger.TWO.pow(e).add(BigInteger.valueOf(random.nextInt(3) - 1));
        Ratio upper = Ratio.whole(random.nextBoolean() ? size : size.negate());
        if (isWhole || random.nextInt(3) == 0) {
            return upper;
        }
        // One more or less than a power of 2 may have a factor of 3 in common with the lower part.
        int factor = size.bitCount() == 1 ? 3 : 2;
        Ratio lower = Ratio.whole(BigInteger.valueOf(factor).pow(Check.longestPower(factor, e + 1)));
        return random.nextBoolean() ? Ratio.ONE.over(lower) : upper.over(lower);
    }

    private long onClass(int op, int to, int row, int column, long u, long l) {
        switch (op) {
            case 0: forms.set(0, row, column, u, l); return 0;
            case 1: forms.add(to, 0, 1, u < 0); return 0;
            case 2: forms.multiply(to, 0, 1); return 0;
            case 3: forms.beside(to, 0, 1); return 0;
            case 4: return forms.echelon(to, 0);
            case 5: return forms.kernel(to, 0);
            case 6: return forms.solve(to, 0, 1) ? 1 : 0;
            case 7: return forms.invert(to, 0) ? 1 : 0;
            case 8: forms.determinant(to, 0); return 0;
            case 9: return forms.hermite(to, 0);
            case 10: return forms.smith(to, 0);
            default: return forms.solve(to, 1, 0) ? 1 : 0;
        }
    }

    private long onModel(int op, int to, int row, int column, long u, long l) {
        switch (op) {
            case 0: model.set(0, row, column, u, l); return 0;
            case 1: model.add(to, 0, 1, u < 0); return 0;
            case 2: model.multiply(to, 0, 1); return 0;
            case 3: model.beside(to, 0, 1); return 0;
            case 4: return model.echelon(to, 0);
            case 5: return model.kernel(to, 0);
            case 6: return model.solve(to, 0, 1) ? 1 : 0;
            case 7: return model.invert(to, 0) ? 1 : 0;
            case 8: model.determinant(to, 0); return 0;
            case 9: return model.hermite(to, 0);
            case 10: return model.smith(to, 0);
            default: return model.solve(to, 1, 0) ? 1 : 0;
        }
    }
}
