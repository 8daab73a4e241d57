/** Terms: "A call's result may go to one of its own registers." Each call, each of its registers. */
public final class OwnRegistersTest {
    /** A call that puts its result into register to; its answer. */
    private interface Two {
        long on(Counted forms, int to, int a);
    }

    private interface Three {
        long on(Counted forms, int to, int a, int b);
    }

    private static final String[] SQUARES = {"1/2 -3 7; 0 5/6 2; 4 1 -1/9", "1 2; 3 4", "-5/3"};
    private static final String[] OBLONG = {"1/2 -3 0 5; 0 5/6 2 -1", "1; 2/3; -5", "4 0 1/7"};
    private static final String[] WHOLE = {"4 6 -2; 0 3 9", "6; -4; 10", "2 4 4; -6 6 12; 10 -4 -16", "8 12"};

    private final Check check = new Check();

    public static void main(String[] args) {
        OwnRegistersTest test = new OwnRegistersTest();
        test.ofTwo();
        test.ofThree();
        test.longest();
        test.check.end("OwnRegistersTest");
    }

    private void ofTwo() {
        for (String[] all : new String[][] {SQUARES, OBLONG, WHOLE}) {
            for (String a : all) {
                two("turn", a, (f, to, x) -> {
                    f.turn(to, x);
                    return 0;
                });
                two("part", a, (f, to, x) -> {
                    int row = f.size(x, false) - 1;
                    int column = f.size(x, true) - 1;
                    f.part(to, x, row / 2, row, (column + 1) / 2, column);
                    return 0;
                });
                two("echelon", a, Counted::echelon);
                two("kernel", a, Counted::kernel);
            }
        }
        for (String a : SQUARES) {
            two("invert", a, (f, to, x) -> f.invert(to, x) ? 1 : 0);
            two("determinant", a, (f, to, x) -> {
                f.determinant(to, x);
                return 0;
            });
        }
        for (String a : WHOLE) {
            two("hermite", a, Counted::hermite);
            two("smith", a, Counted::smith);
        }
    }

    /** The result is the same in another register as in a's own, in every register that a may be. */
    private void two(String what, String a, Two call) {
        for (int r = 0; r < 8; r++) {
            Counted forms = new Counted();
            int other = (r + 3) % 8;
            Check.put(forms, r, a);
            Check.put(forms, other, "3 1/4; 1 9");
            long answer = call.on(forms, other, r);
            check.register(what + " leaves " + a, forms, r, a);
            Ratio[][] result = Check.read(forms, other);
            check.due(what + " of " + a, call.on(forms, r, r), answer);
            if (what.equals("kernel") && answer == 0) {
                check.register("there is none of " + a, forms, other, "3 1/4; 1 9");
                check.register("nor to its own", forms, r, a);
            } else {
                check.register(what + " of " + a, forms, r, result);
            }
        }
    }

    private void ofThree() {
        String[][] alike = {{"1/2 -3 7; 0 5/6 2", "2 2 1/3; 1 0 -1/7"}, {"1 2; 3 4", "0 1/5; 1 -1"}, {"-5/3", "1/9"}};
        for (String[] pair : alike) {
            three("add", pair, this::sum);
            three("less", pair, this::difference);
            three("beside", pair, this::sideBySide);
        }
        String[][] products = {{"1/2 -3 7; 0 5/6 2; 4 1 -1/9", "1 2 3; 4 5 6; 7 8 1/2"}, {"1 2; 3 4", "0 1/5; 1 -1"},
            {"1 2 3", "4; 5; 6"}, {"4; 5; 6", "1 2 3"}, {"1/2 1; 2 3", "1 2 3 4; 5 6 7 1/8"}};
        for (String[] pair : products) {
            three("multiply", pair, this::product);
        }
        String[][] systems = {{"1/2 -3 7; 0 5/6 2; 4 1 -1/9", "1 2; 4 5; 7 1/2"}, {"1 2; 3 4", "0 1/5; 1 -1"},
            {"1 2 3; 0 0 1/2", "4; 5"}, {"0 1 2", "1/3 5 6 7"}};
        for (String[] pair : systems) {
            three("solve", pair, (f, to, a, b) -> f.solve(to, a, b) ? 1 : 0);
        }
    }

    private long sum(Counted forms, int to, int a, int b) {
        forms.add(to, a, b, false);
        return 0;
    }

    private long difference(Counted forms, int to, int a, int b) {
        forms.add(to, a, b, true);
        return 0;
    }

    private long sideBySide(Counted forms, int to, int a, int b) {
        forms.beside(to, a, b);
        return 0;
    }

    private long product(Counted forms, int to, int a, int b) {
        forms.multiply(to, a, b);
        return 0;
    }

    /** The result is the same in a third register, in a's and in b's; and where a and b are one. */
    private void three(String what, String[] pair, Three call) {
        Counted forms = new Counted();
        Check.put(forms, 6, pair[0]);
        Check.put(forms, 1, pair[1]);
        long answer = call.on(forms, 4, 6, 1);
        check.register(what + " leaves a", forms, 6, pair[0]);
        check.register(what + " leaves b", forms, 1, pair[1]);
        Ratio[][] result = Check.read(forms, 4);
        check.due(what + " to a", call.on(forms, 6, 6, 1), answer);
        check.register(what + " to a", forms, 6, result);
        check.register(what + " to a leaves b", forms, 1, pair[1]);
        Check.put(forms, 6, pair[0]);
        check.due(what + " to b", call.on(forms, 1, 6, 1), answer);
        check.register(what + " to b", forms, 1, result);
        check.register(what + " to b leaves a", forms, 6, pair[0]);
        if (!what.equals("multiply") || forms.size(6, false) == forms.size(6, true)) {
            long twice = call.on(forms, 3, 6, 6);
            check.register(what + " of a and a leaves it", forms, 6, pair[0]);
            result = Check.read(forms, 3);
            check.due(what + " of a and a to a", call.on(forms, 6, 6, 6), twice);
            check.register(what + " of a and a to a", forms, 6, result);
        }
    }

    /** Results of 4000 bits and 20000 limbs may go there as well. */
    private void longest() {
        Counted forms = new Counted();
        Check.fullOfFractions(forms);
        forms.turn(2, 0);
        forms.turn(0, 0);
        check.holds("turn", forms.same(0, 2));
        forms.turn(0, 0);
        forms.part(2, 0, 0, 15, 0, 9);
        forms.make(3, 16, 10);
        forms.add(0, 0, 3, false);
        check.holds("add to a", forms.same(0, 2));
        forms.add(3, 3, 0, true);
        forms.add(3, 3, 0, false);
        forms.add(3, 0, 3, false);
        check.holds("add to b", forms.same(3, 2));
        forms.unit(4, 10);
        forms.multiply(0, 0, 4);
        check.holds("multiply to a", forms.same(0, 2));
        forms.multiply(4, 0, 4);
        check.holds("multiply to b", forms.same(4, 2));
        forms.make(5, 16, 6);
        forms.beside(5, 0, 5);
        forms.part(5, 5, 0, 15, 0, 9);
        check.holds("beside and part", forms.same(5, 2));
    }
}
