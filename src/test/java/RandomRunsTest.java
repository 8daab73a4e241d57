import java.util.Random;

/**
 * Runs of drawn calls, right and wrong ones, each answered by the class as by the plain model. In most
 * runs what a call changes is read at once; the others have as many calls as one object allows, and are
 * read in the end.
 */
public final class RandomRunsTest {
    private static final int RUNS = 1200;
    private static final int CALLS = 100;
    private static final int MOST_CALLS = 440;
    private static final int KINDS = 17;

    private final Check check = new Check();
    private final Random random;
    private final Counted forms = new Counted();
    private final Model model = new Model();
    private final int widest;
    private final int numbers;
    /** Of one shape with many products, so that lengths come to their bounds. */
    private final boolean growing;
    private final boolean isLong;

    /** One drawn call. */
    private int op;
    private int to;
    private int a;
    private int b;
    private int p;
    private int q;
    private int[] rows = new int[2];
    private int[] columns = new int[2];
    private long u;
    private long l;
    private boolean less;
    private long answer;

    private RandomRunsTest(long seed) {
        random = new Random(seed);
        widest = 1 + random.nextInt(seed % 8 == 0 ? 16 : 5);
        numbers = random.nextInt(4);
        growing = seed % 3 == 0;
        isLong = seed % 50 == 7;
    }

    public static void main(String[] args) {
        long from = args.length > 0 ? Long.parseLong(args[0]) : 1;
        long runs = args.length > 1 ? Long.parseLong(args[1]) : RUNS;
        int[] seen = new int[KINDS * 5];
        for (long seed = from; seed < from + runs; seed++) {
            RandomRunsTest run = new RandomRunsTest(seed);
            int calls = run.isLong ? MOST_CALLS : CALLS;
            for (int call = 0; call < calls && run.check.isWell(); call++) {
                run.draw();
                run.compare("run " + seed + ", call " + call, seen);
            }
            for (int r = 0; r < 8; r++) {
                run.check.register("run " + seed + ", register " + r, run.forms, r, run.model.registers[r]);
            }
            if (!run.check.isWell()) {
                run.check.end("RandomRunsTest");
            }
        }
        int met = 0;
        for (int i = 0; i < KINDS * 5; i++) {
            met += seen[i] > 0 ? 1 : 0;
            if (args.length > 2) {
                System.out.println("call " + i / 5 + ", " + Check.name(i % 5) + ": " + seen[i]);
            }
        }
        System.out.println("RandomRunsTest: " + runs + " runs, " + met + " kinds of answers, 0 wrong");
    }

    private void draw() {
        op = random.nextInt(28);
        op = op < KINDS ? op : growing && op < 25 ? op < 23 ? 4 : 3 : 1;
        to = register();
        a = register();
        b = register();
        p = side();
        q = growing || random.nextInt(3) == 0 ? p : side();
        if (growing && (op == 0 || op == 2 || op == 6 || op == 7 || op == 16) && random.nextInt(6) > 0) {
            op = 4;
        }
        // A set is drawn for register a, whose shape the row and column are drawn from.
        for (int i = 0; i < 2; i++) {
            rows[i] = index(false);
            columns[i] = index(true);
        }
        if (random.nextInt(8) > 0) {
            rows[1] = Math.max(rows[0], rows[1]);
            columns[1] = Math.max(columns[0], columns[1]);
        }
        u = number();
        l = numbers == 0 || random.nextInt(3) > 0 ? random.nextInt(40) == 0 ? 0 : 1 : number();
        less = random.nextBoolean();
    }

    private void compare(String where, int[] seen) {
        String what = where + ": call " + op + " of " + to + ", " + a + ", " + b;
        int got = Check.thrown(() -> answer = onClass());
        long gotAnswer = answer;
        int want = Check.thrown(() -> answer = onModel());
        check.due(what + " throws", Check.name(got), Check.name(want));
        if (want == Check.NONE) {
            check.due(what, gotAnswer, answer);
        }
        seen[op * 5 + want]++;
        int changed = op == 1 ? a : to;
        if (changed >= 0 && changed < 8 && !isLong) {
            check.register(what, forms, changed, model.registers[changed]);
        }
    }

    private long onClass() {
        switch (op) {
            case 0: forms.make(to, p, q); return 0;
            case 1: forms.set(a, rows[0], columns[0], u, l); return 0;
            case 2: forms.unit(to, p); return 0;
            case 3: forms.add(to, a, b, less); return 0;
            case 4: forms.multiply(to, a, b); return 0;
            case 5: forms.turn(to, a); return 0;
            case 6: forms.beside(to, a, b); return 0;
            case 7: forms.part(to, a, rows[0], rows[1], columns[0], columns[1]); return 0;
            case 8: return forms.echelon(to, a);
            case 9: return forms.kernel(to, a);
            case 10: return forms.solve(to, a, b) ? 1 : 0;
            case 11: return forms.invert(to, a) ? 1 : 0;
            case 12: forms.determinant(to, a); return 0;
            case 13: return forms.hermite(to, a);
            case 14: return forms.smith(to, a);
            case 15: return forms.same(a, b) ? 1 : 0;
            default: forms.make(to, p, q); return 0;
        }
    }

    private long onModel() {
        switch (op) {
            case 0: model.make(to, p, q); return 0;
            case 1: model.set(a, rows[0], columns[0], u, l); return 0;
            case 2: model.unit(to, p); return 0;
            case 3: model.add(to, a, b, less); return 0;
            case 4: model.multiply(to, a, b); return 0;
            case 5: model.turn(to, a); return 0;
            case 6: model.beside(to, a, b); return 0;
            case 7: model.part(to, a, rows[0], rows[1], columns[0], columns[1]); return 0;
            case 8: return model.echelon(to, a);
            case 9: return model.kernel(to, a);
            case 10: return model.solve(to, a, b) ? 1 : 0;
            case 11: return model.invert(to, a) ? 1 : 0;
            case 12: model.determinant(to, a); return 0;
            case 13: return model.hermite(to, a);
            case 14: return model.smith(to, a);
            case 15: return model.same(a, b) ? 1 : 0;
            default: model.make(to, p, q); return 0;
        }
    }

    private int register() {
        // Few registers, so that calls meet what others left; now and then one that is not there.
        return random.nextInt(60) == 0 ? random.nextBoolean() ? -1 : 8 : random.nextInt(4);
    }

    private int side() {
        return random.nextInt(60) == 0 ? random.nextBoolean() ? 0 : 17
            : growing ? widest : 1 + random.nextInt(widest);
    }

    private int index(boolean column) {
        int n = a < 0 || a > 7 ? 1 : column ? model.registers[a][0].length : model.registers[a].length;
        return random.nextInt(60) == 0 ? random.nextBoolean() ? -1 : n : random.nextInt(n);
    }

    private long number() {
        switch (numbers == 3 ? random.nextInt(6) : numbers) {
            case 0: return random.nextInt(7) - 3;
            case 1: return random.nextInt(41) - 20;
            case 2: return random.nextInt(5) == 0 ? 0 : random.nextLong() >> random.nextInt(60);
            case 3: return random.nextBoolean() ? Long.MIN_VALUE : Long.MAX_VALUE;
            case 4: return random.nextInt(13) * 3L - 18;
            default: return random.nextInt(2);
        }
    }
}
