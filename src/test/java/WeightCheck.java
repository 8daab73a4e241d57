import java.math.BigInteger;

/** WEIGHT at its bound of 2000, the same for every call that names it. */
final class WeightCheck {
    /** A call on register 0, with its result to register 2. */
    interface OnClass {
        long answer(Counted forms);
    }

    /** The same of the plain model. */
    interface OnModel {
        long answer(Model model);
    }

    /** L(k) for k from 1 to 16, written out. */
    private static final int[] POWERS = {0, 1, 2, 2, 3, 3, 3, 3, 4, 4, 4, 4, 4, 4, 4, 4};

    private final Check check;
    private final String what;
    private final OnClass onClass;
    private final OnModel onModel;
    private long answer;

    WeightCheck(Check check, String what, OnClass onClass, OnModel onModel) {
        this.check = check;
        this.what = what;
        this.onClass = onClass;
        this.onModel = onModel;
    }

    void ofAnyShape() {
        ofSquares();
        lesserSide();
    }

    void ofSquares() {
        everySide();
        everyPlace();
        sharedFactors();
        zeros();
    }

    /** The greatest length that cells may have where k is the lesser side. */
    private static int mostBits(int k) {
        return 2000 / k - POWERS[k - 1];
    }

    /**
     * Terms: "L(k) the least e with 2^e not below k: k (b + L(k))." Cells of the greatest length that keeps
     * this at most 2000, and one bit longer, for every k.
     */
    private void everySide() {
        for (int k = 1; k <= 16; k++) {
            int b = mostBits(k);
            Ratio[][] m = Model.one(k);
            m[k - 1][0] = power(b - 1).times(Ratio.of(-1, 1));
            isTaken("k " + k + ", 2^" + (b - 1), m);
            m[k - 1][0] = power(b).minus(Ratio.ONE);
            isTaken("k " + k + ", 2^" + b + " - 1", m);
            m[k - 1][0] = power(b);
            isRefused("k " + k + ", 2^" + b, m);
        }
    }

    /** Terms: "b the greatest length of all cells then," It counts wherever it is, and with any sign. */
    private void everyPlace() {
        for (int i = 0; i < 3; i++) {
            for (int j = 0; j < 3; j++) {
                Ratio[][] m = Model.one(3);
                m[i][j] = power(663);
                isTaken("row " + i + ", column " + j, m);
                m[i][j] = power(664).times(Ratio.of(-1, 1));
                isRefused("row " + i + ", column " + j, m);
            }
        }
    }

    /** Terms: "k the lesser of rows and columns," Rows and columns of 0 do not make it less. */
    private void lesserSide() {
        int[][] shapes = {{3, 2, 2}, {2, 3, 2}, {16, 2, 2}, {2, 16, 2}, {1, 16, 1}, {16, 1, 1}, {5, 4, 4}, {4, 5, 4}};
        for (int[] shape : shapes) {
            int b = mostBits(shape[2]);
            Ratio[][] m = Model.zero(shape[0], shape[1]);
            m[shape[0] - 1][shape[1] - 1] = power(b - 1);
            isTaken(shape[0] + " by " + shape[1], m);
            m[shape[0] - 1][shape[1] - 1] = power(b);
            isRefused(shape[0] + " by " + shape[1], m);
        }
    }

    /**
     * Terms: "WEIGHT of a matrix: let each row be times the least number above 0 that makes it whole," For
     * whole cells that is 1: a factor that they share is not taken out.
     */
    private void sharedFactors() {
        Ratio[][] m = {{power(998), power(998)}, {power(998), power(998)}};
        isTaken("2^998 all over", m);
        m = new Ratio[][] {{power(999), power(999)}, {power(999), power(999)}};
        isRefused("2^999 all over", m);
    }

    /** Without any cell that is not 0, b is 0. */
    private void zeros() {
        isTaken("16 by 16 of 0", Model.zero(16, 16));
        isTaken("1 by 1 of 0", Model.zero(1, 1));
    }

    /**
     * Terms: "WEIGHT of a matrix: let each row be times the least number above 0 that makes it whole," Each
     * row by itself: COMMON of all is not asked for, and of several such numbers only the least.
     */
    void rowsMadeWhole() {
        Ratio one = Ratio.ONE;
        Ratio nothing = Ratio.ZERO;
        isTaken("each row becomes 1 and 0", new Ratio[][] {{below(2, 1998), nothing}, {nothing, below(3, 1200)}});
        isRefused("2^1936 beside 1", new Ratio[][] {{below(2, 1998), below(2, 62)}, {nothing, below(3, 1200)}});
        isTaken("2^998 beside 1", new Ratio[][] {{nothing, one}, {one, below(2, 998)}});
        isRefused("2^999 beside 1", new Ratio[][] {{nothing, one}, {one, below(2, 999)}});
        isTaken("2^997 by 2 beside 1", new Ratio[][] {{nothing, one}, {Ratio.of(-2, 1), below(2, 997)}});
        isRefused("2^998 by 2 beside 1", new Ratio[][] {{nothing, one}, {Ratio.of(-2, 1), below(2, 998)}});
        Ratio third = Ratio.of(1, 3);
        isTaken("3 by 2^997 beside 1", new Ratio[][] {{nothing, one}, {power(997), third}});
        isRefused("3 by 2^998 beside 1", new Ratio[][] {{nothing, one}, {power(998), third}});
        Ratio quarter = power(997).plus(one).over(Ratio.of(4, 1));
        isTaken("12 is the least for quarters and sixths", new Ratio[][] {{quarter, Ratio.of(1, 6)}, {nothing, one}});
        Ratio longer = power(998).plus(one).over(Ratio.of(4, 1));
        isRefused("a quarter by 12 is too long", new Ratio[][] {{longer, Ratio.of(1, 6)}, {nothing, one}});
    }

    private static Ratio power(int e) {
        return Ratio.whole(BigInteger.TWO.pow(e));
    }

    private static Ratio below(int number, int e) {
        return new Ratio(BigInteger.ONE, BigInteger.valueOf(number).pow(e));
    }

    void isTaken(String which, Ratio[][] m) {
        Counted forms = new Counted();
        Model model = new Model();
        Check.putPowers(forms, 0, m);
        model.registers[0] = m;
        long want = onModel.answer(model);
        check.due(what + ", " + which + ", throws",
            Check.name(Check.thrown(() -> answer = onClass.answer(forms))), Check.name(Check.NONE));
        check.due(what + ", " + which, answer, want);
        check.register(what + ", " + which, forms, 2, model.registers[2]);
    }

    void isRefused(String which, Ratio[][] m) {
        Counted forms = new Counted();
        Check.putPowers(forms, 0, m);
        check.refused(what + ", " + which, forms, Check.UNSUPPORTED, () -> onClass.answer(forms));
    }
}
