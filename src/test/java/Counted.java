import java.util.ArrayList;
import java.util.List;

/**
 * An object of the class that is never used for more calls than the document promises to answer: before
 * its 513th call a new one takes its place, on which all calls that may change something are made again,
 * and must answer as they did.
 */
final class Counted {
    static final int MOST_CALLS = 512;
    /** The rest of a run's calls is left to look at what these did. */
    private static final int MOST_CHANGES = 470;

    private interface Step {
        long on(ExactForms forms);
    }

    private final List<Step> changes = new ArrayList<>();
    private final List<String> answers = new ArrayList<>();
    private ExactForms forms = new ExactForms();
    private int used;

    void make(int r, int rows, int columns) {
        change(f -> {
            f.make(r, rows, columns);
            return 0;
        });
    }

    void set(int r, int row, int column, long u, long l) {
        change(f -> {
            f.set(r, row, column, u, l);
            return 0;
        });
    }

    void unit(int to, int n) {
        change(f -> {
            f.unit(to, n);
            return 0;
        });
    }

    void add(int to, int a, int b, boolean less) {
        change(f -> {
            f.add(to, a, b, less);
            return 0;
        });
    }

    void multiply(int to, int a, int b) {
        change(f -> {
            f.multiply(to, a, b);
            return 0;
        });
    }

    void turn(int to, int a) {
        change(f -> {
            f.turn(to, a);
            return 0;
        });
    }

    void beside(int to, int a, int b) {
        change(f -> {
            f.beside(to, a, b);
            return 0;
        });
    }

    void part(int to, int a, int i, int k, int j, int l) {
        change(f -> {
            f.part(to, a, i, k, j, l);
            return 0;
        });
    }

    int echelon(int to, int a) {
        return (int) change(f -> f.echelon(to, a));
    }

    int kernel(int to, int a) {
        return (int) change(f -> f.kernel(to, a));
    }

    boolean solve(int to, int a, int b) {
        return change(f -> f.solve(to, a, b) ? 1 : 0) == 1;
    }

    boolean invert(int to, int a) {
        return change(f -> f.invert(to, a) ? 1 : 0) == 1;
    }

    void determinant(int to, int a) {
        change(f -> {
            f.determinant(to, a);
            return 0;
        });
    }

    int hermite(int to, int a) {
        return (int) change(f -> f.hermite(to, a));
    }

    int smith(int to, int a) {
        return (int) change(f -> f.smith(to, a));
    }

    int size(int r, boolean columns) {
        return (int) ask(f -> f.size(r, columns));
    }

    int sign(int r, int row, int column) {
        return (int) ask(f -> f.sign(r, row, column));
    }

    int length(int r, int row, int column, boolean lower) {
        return (int) ask(f -> f.length(r, row, column, lower));
    }

    int limb(int r, int row, int column, boolean lower, int k) {
        return (int) ask(f -> f.limb(r, row, column, lower, k));
    }

    boolean same(int a, int b) {
        return ask(f -> f.same(a, b) ? 1 : 0) == 1;
    }

    private long ask(Step step) {
        renew();
        used++;
        return step.on(forms);
    }

    private long change(Step step) {
        renew();
        used++;
        if (changes.size() == MOST_CHANGES) {
            throw new AssertionError("the test makes too many calls of one object");
        }
        changes.add(step);
        try {
            long answer = step.on(forms);
            answers.add(String.valueOf(answer));
            return answer;
        } catch (RuntimeException e) {
            answers.add(e.getClass().getName());
            throw e;
        }
    }

    private void renew() {
        if (used < MOST_CALLS) {
            return;
        }
        forms = new ExactForms();
        used = changes.size();
        for (int i = 0; i < used; i++) {
            if (!answerOf(changes.get(i)).equals(answers.get(i))) {
                throw new AssertionError("the same calls have not given the same answers");
            }
        }
    }

    private String answerOf(Step step) {
        try {
            return String.valueOf(step.on(forms));
        } catch (RuntimeException e) {
            return e.getClass().getName();
        }
    }
}
