import java.math.BigInteger;

/** Counts and prints what is not as due, and fills and reads registers. */
final class Check {
    static final int NONE = 0;
    static final int INDEX = 1;
    static final int ARGUMENT = 2;
    static final int UNSUPPORTED = 3;

    private static final String[] NAMES = {"nothing", "IndexOutOfBoundsException", "IllegalArgumentException",
        "UnsupportedOperationException", "something else"};
    private static final int CHUNK = 62;

    private int wrong;
    private int done;

    interface Call {
        void run();
    }

    interface Answer {
        Object get();
    }

    void due(String what, Object got, Object want) {
        done++;
        if (!got.equals(want)) {
            wrong++;
            if (wrong < 50) {
                System.out.println(what + ": " + got + ", due is " + want);
            }
        }
    }

    void holds(String what, boolean well) {
        due(what, well, true);
    }

    /** Which exception a call throws; of a subclass, as the machine throws, it is something else. */
    static int thrown(Call call) {
        try {
            call.run();
        } catch (RuntimeException e) {
            Class<?> kind = e.getClass();
            if (kind == IndexOutOfBoundsException.class) {
                return INDEX;
            }
            if (kind == IllegalArgumentException.class) {
                return ARGUMENT;
            }
            if (kind == UnsupportedOperationException.class) {
                return UNSUPPORTED;
            }
            e.printStackTrace(System.out);
            return 4;
        }
        return NONE;
    }

    /** The call throws this, and all registers are as they were. */
    void refused(String what, Counted forms, int want, Call call) {
        refused(what, forms, want, 8, call);
    }

    /** The same, where only the first registers are to stay. */
    void refused(String what, Counted forms, int want, int registers, Call call) {
        Ratio[][][] before = new Ratio[registers][][];
        for (int r = 0; r < registers; r++) {
            before[r] = read(forms, r);
        }
        due(what + " throws", NAMES[thrown(call)], NAMES[want]);
        unchanged(what, forms, before);
    }

    /** The call answers this, and all registers are as they were. */
    void leaves(String what, Counted forms, Object want, Answer call) {
        Ratio[][][] before = new Ratio[8][][];
        for (int r = 0; r < 8; r++) {
            before[r] = read(forms, r);
        }
        due(what, call.get(), want);
        unchanged(what, forms, before);
    }

    void unchanged(String what, Counted forms, Ratio[][][] before) {
        for (int r = 0; r < before.length; r++) {
            holds(what + " leaves register " + r, Model.same(read(forms, r), before[r]));
        }
    }

    void register(String what, Counted forms, int r, Ratio[][] want) {
        Ratio[][] got = read(forms, r);
        due(what, text(got), text(want));
    }

    /** A matrix written as its rows, ';' between them, the cells like 3 or -1/2. */
    void register(String what, Counted forms, int r, String want) {
        due(what, text(read(forms, r)), text(parse(want)));
    }

    static Ratio[][] parse(String text) {
        String[] rows = text.split(";");
        Ratio[][] m = new Ratio[rows.length][];
        for (int i = 0; i < rows.length; i++) {
            String[] cells = rows[i].trim().split(" +");
            m[i] = new Ratio[cells.length];
            for (int j = 0; j < cells.length; j++) {
                String[] parts = cells[j].split("/");
                m[i][j] = new Ratio(new BigInteger(parts[0]),
                    parts.length > 1 ? new BigInteger(parts[1]) : BigInteger.ONE);
            }
        }
        return m;
    }

    static String text(Ratio[][] m) {
        StringBuilder s = new StringBuilder();
        for (Ratio[] row : m) {
            s.append('[');
            for (Ratio c : row) {
                s.append(' ').append(c);
            }
            s.append(" ]");
        }
        return s.toString();
    }

    static Ratio[][] read(Counted forms, int r) {
        Ratio[][] m = Model.zero(forms.size(r, false), forms.size(r, true));
        for (int i = 0; i < m.length; i++) {
            for (int j = 0; j < m[0].length; j++) {
                m[i][j] = cell(forms, r, i, j);
            }
        }
        return m;
    }

    /** A cell as it is shown; it must be shown in least terms. */
    static Ratio cell(Counted forms, int r, int row, int column) {
        BigInteger upper = size(forms, r, row, column, false);
        BigInteger lower = size(forms, r, row, column, true);
        int sign = forms.sign(r, row, column);
        Ratio cell = new Ratio(sign < 0 ? upper.negate() : upper, lower);
        if (!cell.upper.abs().equals(upper) || !cell.lower.equals(lower) || cell.upper.signum() != sign) {
            throw new IllegalStateException("not in least terms, or of a wrong sign");
        }
        return cell;
    }

    private static BigInteger size(Counted forms, int r, int row, int column, boolean lower) {
        int bits = forms.length(r, row, column, lower);
        BigInteger size = BigInteger.ZERO;
        for (int k = (bits + 31) / 32; k >= 0; k--) {
            long limb = forms.limb(r, row, column, lower, k) & 0xFFFFFFFFL;
            size = size.shiftLeft(32).or(BigInteger.valueOf(limb));
        }
        if (size.bitLength() != bits) {
            throw new IllegalStateException("length and limbs do not fit together");
        }
        return size;
    }

    static void put(Counted forms, int r, String text) {
        put(forms, r, parse(text));
    }

    /** Cells that fit are set; others are put together from chunks, with registers 6 and 7 as helpers. */
    static void put(Counted forms, int r, Ratio[][] m) {
        int chunks = 1;
        for (Ratio[] row : m) {
            for (Ratio c : row) {
                if (c.upper.bitLength() > 63 || c.lower.bitLength() > 63) {
                    BigInteger common = Model.commonOf(m);
                    int bits = Math.max(common.bitLength(), scaled(m, common));
                    chunks = Math.max(chunks, (bits + CHUNK - 1) / CHUNK);
                }
            }
        }
        if (chunks > 1) {
            putLong(forms, r, m, chunks);
            return;
        }
        forms.make(r, m.length, m[0].length);
        for (int i = 0; i < m.length; i++) {
            for (int j = 0; j < m[0].length; j++) {
                if (!m[i][j].isZero()) {
                    forms.set(r, i, j, m[i][j].upper.longValueExact(), m[i][j].lower.longValueExact());
                }
            }
        }
    }

    /**
     * Cells that are no powers must be short; a long one is a power of 2, or one more or less, over a power
     * of 2 or of 3. Each is put by itself, which takes some 60 calls, with registers 3 to 7 as helpers.
     */
    static void putPowers(Counted forms, int r, Ratio[][] m) {
        int[] shape = {m.length, m[0].length};
        forms.make(r, shape[0], shape[1]);
        for (int i = 0; i < shape[0]; i++) {
            for (int j = 0; j < shape[1]; j++) {
                Ratio cell = m[i][j];
                if (cell.upper.bitLength() > 63 || cell.lower.bitLength() > 63) {
                    putPower(forms, cell);
                    place(forms, 3, shape, i, j, 4);
                    forms.add(r, r, 3, false);
                } else if (!cell.isZero()) {
                    forms.set(r, i, j, cell.upper.longValueExact(), cell.lower.longValueExact());
                }
            }
        }
    }

    /** Register 4 becomes that cell. */
    private static void putPower(Counted forms, Ratio cell) {
        BigInteger size = cell.upper.abs();
        int e = size.add(BigInteger.ONE).bitLength() - 1;
        power(forms, 4, 2, 1, e);
        forms.make(5, 1, 1);
        forms.set(5, 0, 0, size.subtract(BigInteger.TWO.pow(e)).longValueExact(), 1);
        forms.add(4, 4, 5, false);
        if (cell.upper.signum() < 0) {
            forms.make(5, 1, 1);
            forms.add(4, 5, 4, true);
        }
        if (!cell.lower.equals(BigInteger.ONE)) {
            int factor = cell.lower.testBit(0) ? 3 : 2;
            power(forms, 5, 1, factor, longestPower(factor, cell.lower.bitLength()));
            forms.multiply(4, 4, 5);
        }
    }

    private static int scaled(Ratio[][] m, BigInteger common) {
        int bits = 0;
        for (Ratio[] row : m) {
            for (Ratio c : row) {
                bits = Math.max(bits, c.upper.abs().multiply(common).divide(c.lower).bitLength());
            }
        }
        return bits;
    }

    private static void putLong(Counted forms, int r, Ratio[][] m, int chunks) {
        BigInteger common = Model.commonOf(m);
        int n = m.length;
        scaleUnit(forms, n);
        putChunk(forms, r, m, common, chunks - 1);
        for (int k = chunks - 2; k >= 0; k--) {
            forms.multiply(r, 7, r);
            putChunk(forms, 6, m, common, k);
            forms.add(r, r, 6, false);
        }
        if (!common.equals(BigInteger.ONE)) {
            putLong(forms, 5, new Ratio[][] {{Ratio.whole(common)}}, (common.bitLength() + CHUNK - 1) / CHUNK);
            forms.invert(5, 5);
            spread(forms, n);
            forms.multiply(r, 7, r);
        }
    }

    /** Register r becomes the bits from CHUNK k on of each cell times COMMON, with the cell's sign. */
    private static void putChunk(Counted forms, int r, Ratio[][] m, BigInteger common, int k) {
        forms.make(r, m.length, m[0].length);
        for (int i = 0; i < m.length; i++) {
            for (int j = 0; j < m[0].length; j++) {
                BigInteger whole = m[i][j].upper.abs().multiply(common).divide(m[i][j].lower);
                long chunk = whole.shiftRight(CHUNK * k).longValue() & (1L << CHUNK) - 1;
                if (chunk != 0) {
                    forms.set(r, i, j, m[i][j].upper.signum() < 0 ? -chunk : chunk, 1);
                }
            }
        }
    }

    private static void scaleUnit(Counted forms, int n) {
        forms.make(7, n, n);
        for (int i = 0; i < n; i++) {
            forms.set(7, i, i, 1L << CHUNK, 1);
        }
    }

    /** Register 7 becomes the unit matrix times the one cell of register 5. */
    private static void spread(Counted forms, int n) {
        for (int i = 0; i < n; i++) {
            forms.make(6, n, 1);
            forms.set(6, i, 0, 1, 1);
            forms.multiply(6, 6, 5);
            if (i == 0) {
                forms.part(7, 6, 0, n - 1, 0, 0);
            } else {
                forms.beside(7, 7, 6);
            }
        }
    }

    boolean isWell() {
        return wrong == 0;
    }

    /** Register r becomes the one cell (u / l) to the power e; register 7 is a helper. */
    static void power(Counted forms, int r, long u, long l, int e) {
        forms.unit(r, 1);
        forms.make(7, 1, 1);
        forms.set(7, 0, 0, u, l);
        for (int bit = 12; bit >= 0; bit--) {
            forms.multiply(r, r, r);
            if ((e >> bit & 1) == 1) {
                forms.multiply(r, r, 7);
            }
        }
    }

    /** Register r becomes rows and columns of 0 with the one cell of register from at a place. */
    static void place(Counted forms, int r, int[] shape, int row, int column, int from) {
        forms.make(6, shape[0], 1);
        forms.set(6, row, 0, 1, 1);
        forms.multiply(6, 6, from);
        forms.make(7, 1, shape[1]);
        forms.set(7, 0, column, 1, 1);
        forms.multiply(r, 6, 7);
    }

    /** Register r becomes rows and columns all of the one cell of register from. */
    static void fill(Counted forms, int r, int rows, int columns, int from) {
        forms.make(6, rows, 1);
        forms.make(7, 1, columns);
        for (int i = 0; i < rows; i++) {
            forms.set(6, i, 0, 1, 1);
        }
        for (int j = 0; j < columns; j++) {
            forms.set(7, 0, j, 1, 1);
        }
        forms.multiply(6, 6, from);
        forms.multiply(r, 6, 7);
    }

    /**
     * Register 0 becomes 16 rows and 11 columns with 20000 limbs together: 159 cells of 125, one of 124,
     * COMMON of 1, the last column of 0. Register 1 is left with 2^3999, all others as helpers.
     */
    static void full(Counted forms) {
        power(forms, 1, 2, 1, 3999);
        power(forms, 2, 2, 1, 3967);
        fill(forms, 0, 16, 9, 1);
        fill(forms, 3, 16, 1, 1);
        place(forms, 4, new int[] {16, 1}, 5, 0, 1);
        forms.add(3, 3, 4, true);
        place(forms, 4, new int[] {16, 1}, 5, 0, 2);
        forms.add(3, 3, 4, false);
        forms.beside(0, 0, 3);
        forms.make(4, 16, 1);
        forms.beside(0, 0, 4);
    }

    /**
     * Register 0 becomes 16 rows and 10 columns with 20000 limbs together: COMMON is 2^3999, and all cells
     * but the last, which is 0, are 1 + 1 / COMMON. Register 1 is left with 1 / COMMON.
     */
    static void fullOfFractions(Counted forms) {
        power(forms, 1, 1, 2, 3999);
        forms.unit(2, 1);
        forms.add(2, 2, 1, false);
        fill(forms, 0, 16, 9, 2);
        fill(forms, 3, 16, 1, 2);
        place(forms, 4, new int[] {16, 1}, 15, 0, 2);
        forms.add(3, 3, 4, true);
        forms.beside(0, 0, 3);
    }

    /** Of what full has left, the cell of 124 limbs becomes 2^e. */
    static void shorten(Counted forms, int e) {
        power(forms, 2, 2, 1, 3967);
        place(forms, 4, new int[] {16, 11}, 5, 9, 2);
        forms.add(0, 0, 4, true);
        power(forms, 2, 2, 1, e);
        place(forms, 4, new int[] {16, 11}, 5, 9, 2);
        forms.add(0, 0, 4, false);
    }

    /** The greatest power of a number that has at most the given length. */
    static int longestPower(int number, int bits) {
        int e = 0;
        while (BigInteger.valueOf(number).pow(e + 1).bitLength() <= bits) {
            e++;
        }
        return e;
    }

    /**
     * An object whose calls have worked on all of 16 rows and columns before, none of whose cells was 0, and
     * last on a Hermite form with cells above its first pivots.
     */
    static Counted usedBefore() {
        Counted forms = new Counted();
        forms.unit(1, 1);
        fill(forms, 0, 16, 16, 1);
        forms.unit(2, 16);
        forms.add(0, 0, 2, false);
        forms.echelon(1, 0);
        forms.kernel(1, 0);
        forms.hermite(1, 0);
        forms.smith(1, 0);
        forms.invert(1, 0);
        forms.solve(2, 0, 1);
        forms.multiply(3, 1, 2);
        forms.make(0, 16, 16);
        for (int i = 0; i < 16; i++) {
            forms.set(0, i, i, 7, 1);
            for (int j = i + 1; j < 5; j++) {
                forms.set(0, i, j, 3, 1);
            }
        }
        forms.hermite(1, 0);
        return forms;
    }

    static String name(int kind) {
        return NAMES[kind];
    }

    void end(String test) {
        System.out.println(test + ": " + done + " checks, " + wrong + " wrong");
        if (wrong > 0) {
            System.exit(1);
        }
    }
}
