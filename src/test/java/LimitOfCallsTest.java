/**
 * What it is: "An object is used for at most 512 calls after it has been made; what later calls answer is
 * free." So the 511th and the 512th answer as all others do, whatever the calls before them were.
 */
public final class LimitOfCallsTest {
    private static final int MOST_CALLS = 512;

    /** The 511th and the 512th call; whether they answered as due. */
    private interface Ending {
        boolean isAsDue(LimitOfCallsTest run);
    }

    private final ExactForms forms = new ExactForms();
    private int calls;

    public static void main(String[] args) {
        Check check = new Check();
        changes(check);
        forms(check);
        nothingChanges(check);
        refusals(check);
        questions(check);
        check.end("LimitOfCallsTest");
    }

    /** The object, for one call more. */
    private ExactForms next() {
        calls++;
        if (calls > MOST_CALLS) {
            throw new AssertionError("the test makes too many calls of one object");
        }
        return forms;
    }

    /**
     * 510 calls of all kinds, many refused, many with the longest numbers and the greatest shapes. Then
     * register 0 is "1 2; 3 4", 1 is "2 0; 0 1/2", 2 is what the ending expects, and 3 is "1 2; 2 4".
     */
    private void before(String expected) {
        longNumbers();
        greatForms();
        while (calls < MOST_CALLS - 2 - 24 - 5) {
            Check.thrown(() -> next().set(4, 0, 1, calls, 1));
            next().limb(6, 15, 15, true, calls % 125);
            next().length(6, 3, calls % 16, false);
            Check.thrown(() -> next().add(7, 6, 5, false));
            next().same(6, 7);
        }
        put(0, "1 2; 3 4");
        put(1, "2 0; 0 1/2");
        put(3, "1 2; 2 4");
        put(2, expected);
        while (calls < MOST_CALLS - 2) {
            next().size(2, true);
        }
    }

    private void longNumbers() {
        next().set(5, 0, 0, 1L << 62, 1);
        for (int i = 0; i < 6; i++) {
            next().multiply(5, 5, 5);
        }
        next().set(4, 0, 0, -3, 1);
        for (int i = 0; i < 40; i++) {
            next().multiply(7, 5, 4);
            Check.thrown(() -> next().multiply(5, 5, 5));
            Check.thrown(() -> next().echelon(5, 7));
        }
        for (int i = 0; i < 4; i++) {
            next().beside(7, 7, 7);
        }
        next().turn(7, 7);
        Check.thrown(() -> next().multiply(7, 7, 7));
    }

    private void greatForms() {
        next().make(6, 16, 16);
        for (int i = 0; i < 120; i++) {
            next().set(6, i % 16, i * 7 % 16, i * 31 - 1000, 1 + i % 3 / 2);
        }
        for (int i = 0; i < 16; i++) {
            next().set(6, i, 15 - i, 1L << 40 + i, 1);
        }
        next().echelon(0, 6);
        next().kernel(1, 6);
        next().solve(2, 6, 6);
        next().invert(3, 6);
        next().determinant(4, 6);
        Check.thrown(() -> next().hermite(0, 6));
        Check.thrown(() -> next().smith(0, 6));
    }

    private void put(int r, String text) {
        Ratio[][] m = Check.parse(text);
        next().make(r, m.length, m[0].length);
        for (int i = 0; i < m.length; i++) {
            for (int j = 0; j < m[0].length; j++) {
                if (!m[i][j].isZero()) {
                    next().set(r, i, j, m[i][j].upper.longValueExact(), m[i][j].lower.longValueExact());
                }
            }
        }
    }

    private static void end(Check check, String what, String expected, Ending ending) {
        LimitOfCallsTest run = new LimitOfCallsTest();
        run.before(expected);
        check.due(what + ", calls before", run.calls, MOST_CALLS - 2);
        check.holds(what, ending.isAsDue(run));
        check.due(what + ", calls", run.calls, MOST_CALLS);
    }

    private static void changes(Check check) {
        end(check, "make", "0 0", run -> {
            run.next().make(0, 1, 2);
            return run.next().same(0, 2);
        });
        end(check, "set", "1 2; 3 -1/2", run -> {
            run.next().set(0, 1, 1, 2, -4);
            return run.next().same(0, 2);
        });
        end(check, "unit", "1 0; 0 1", run -> {
            run.next().unit(0, 2);
            return run.next().same(0, 2);
        });
        end(check, "add", "3 2; 3 9/2", run -> {
            run.next().add(0, 0, 1, false);
            return run.next().same(0, 2);
        });
        end(check, "less", "-1 2; 3 7/2", run -> {
            run.next().add(1, 0, 1, true);
            return run.next().same(1, 2);
        });
        end(check, "multiply", "2 1; 6 2", run -> {
            run.next().multiply(7, 0, 1);
            return run.next().same(7, 2);
        });
        end(check, "turn", "1 3; 2 4", run -> {
            run.next().turn(0, 0);
            return run.next().same(0, 2);
        });
        end(check, "beside", "1 2 2 0; 3 4 0 1/2", run -> {
            run.next().beside(5, 0, 1);
            return run.next().same(5, 2);
        });
        end(check, "part", "0 1/2", run -> {
            run.next().part(1, 1, 1, 1, 0, 1);
            return run.next().same(1, 2);
        });
    }

    private static void forms(Check check) {
        end(check, "echelon", "1 2; 0 0", run -> run.next().echelon(3, 3) == 1 && run.next().same(3, 2));
        end(check, "kernel", "1 -1/2", run -> run.next().kernel(3, 3) == 1 && run.next().same(3, 2));
        end(check, "solve", "-4 1/2; 3 -1/4", run -> run.next().solve(5, 0, 1) && run.next().same(5, 2));
        end(check, "invert", "-2 1; 3/2 -1/2", run -> run.next().invert(6, 0) && run.next().same(6, 2));
        end(check, "determinant", "-2", run -> {
            run.next().determinant(0, 0);
            return run.next().same(0, 2);
        });
        end(check, "hermite", "1 0; 0 2", run -> run.next().hermite(7, 0) == 2 && run.next().same(7, 2));
        end(check, "smith", "1 0; 0 0", run -> run.next().smith(7, 3) == 1 && run.next().same(7, 2));
        end(check, "the last two", "0", run -> run.next().echelon(0, 0) == 2 && run.next().kernel(3, 3) == 1);
        end(check, "the last two", "0", run -> run.next().hermite(0, 0) == 2 && run.next().smith(3, 3) == 1);
        end(check, "the last two", "0", run -> run.next().solve(2, 0, 3) && run.next().invert(0, 0));
    }

    private static void nothingChanges(Check check) {
        end(check, "kernel of 0 rows", "1 2; 3 4", run -> run.next().kernel(0, 0) == 0 && run.next().same(0, 2));
        end(check, "no solution", "1 2; 2 4", run -> !run.next().solve(3, 3, 0) && run.next().same(3, 2));
        end(check, "no inverse", "1 2; 2 4", run -> !run.next().invert(3, 3) && run.next().same(3, 2));
    }

    private static void refusals(Check check) {
        end(check, "no such register", "1 2; 3 4", run ->
            Check.thrown(() -> run.next().turn(0, 8)) == Check.INDEX && run.next().same(0, 2));
        end(check, "wrong shape", "1 2; 3 4", run ->
            Check.thrown(() -> run.next().make(0, 0, 1)) == Check.ARGUMENT && run.next().same(0, 2));
        end(check, "not whole", "2 0; 0 1/2", run ->
            Check.thrown(() -> run.next().hermite(1, 1)) == Check.ARGUMENT && run.next().same(1, 2));
        end(check, "too long, as the last", "0", run ->
            run.next().size(5, true) == 1 && Check.thrown(() -> run.next().multiply(5, 5, 5)) == Check.UNSUPPORTED);
        end(check, "no such limb, as the last", "0", run ->
            run.next().size(2, true) == 1 && Check.thrown(() -> run.next().limb(0, 0, 0, true, -1)) == Check.INDEX);
    }

    private static void questions(Check check) {
        end(check, "size", "0 0 0", run -> run.next().size(2, true) == 3 && run.next().size(2, false) == 1);
        end(check, "sign", "-5/9", run -> run.next().sign(2, 0, 0) == -1 && run.next().sign(0, 0, 0) == 1);
        end(check, "length", "-5/9", run -> run.next().length(2, 0, 0, false) == 3
            && run.next().length(2, 0, 0, true) == 4);
        end(check, "limb", "-5/9", run -> run.next().limb(2, 0, 0, true, 0) == 9
            && run.next().limb(5, 0, 0, false, 124) == 1);
        end(check, "same", "1 2; 3 4", run -> run.next().same(0, 2) && !run.next().same(1, 2));
    }
}
