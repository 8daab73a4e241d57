import com.sun.management.ThreadMXBean;
import java.lang.management.ManagementFactory;

/**
 * All calls of one run live in one room of some 7.3 million fields and elements: the constructor takes
 * what numbers of any length need, and the calls take nothing more.
 */
public final class RoomTest {
    /** A twelfth of the room, by 4 bytes each. */
    private static final long MOST_MADE = 2_400_000;
    /** Less than one row of numbers; a call that throws makes its exception. */
    private static final long MOST_MORE = 4_000;
    private static final int MOST_CALLS = 512;
    private static final ThreadMXBean THREADS = (ThreadMXBean) ManagementFactory.getThreadMXBean();

    /** Calls on a new object, the same each time; answers how many there were. */
    private interface Run {
        int calls(ExactForms forms);
    }

    public static void main(String[] args) {
        Check check = new Check();
        allocated();
        long start = allocated();
        ExactForms forms = new ExactForms();
        long made = allocated() - start;
        System.out.println("a new object: " + made + " bytes");
        check.holds("a new object is small: " + made, made < MOST_MADE);
        check.holds("it is counted at all: " + made, made > 8 * 20000);

        takesNothing(check, "longer and longer numbers", RoomTest::longerAndLonger);
        takesNothing(check, "longer and longer lower parts", RoomTest::longerLowerParts);
        takesNothing(check, "every form, longer and longer", RoomTest::everyForm);
        takesNothing(check, "products twice as long", RoomTest::longProducts);
        longNumbersStand(check);
        check.end("RoomTest");
    }

    private static void takesNothing(Check check, String what, Run run) {
        // The machine's own preparations are over after the first time.
        run.calls(new ExactForms());
        ExactForms forms = new ExactForms();
        long before = allocated();
        int calls = run.calls(forms);
        long more = allocated() - before;
        System.out.println(what + ": " + calls + " calls, " + more + " bytes");
        check.holds(what + " take nothing more: " + more, more < MOST_MORE);
        check.holds(what + ", calls of one run: " + calls, calls <= MOST_CALLS);
    }

    /** Every cell of every register has 6, 14, 30 and 62 limbs, one behind the other, then 125. */
    private static int longerAndLonger(ExactForms forms) {
        forms.set(0, 0, 0, 1L << 62, 1);
        forms.multiply(1, 0, 0);
        forms.multiply(0, 0, 1);
        int calls = 3 + everywhere(forms);
        int[] more = {60, 72, 102};
        for (int m : more) {
            calls += longer(forms, m) + everywhere(forms);
        }
        calls += longer(forms, 30);
        return calls + halfEverywhere(forms);
    }

    /** Powers of a fraction whose parts are both long; then COMMON of nine lower parts. */
    private static int longerLowerParts(ExactForms forms) {
        forms.set(0, 0, 0, -4052555153018976267L, 1L << 62);
        forms.multiply(1, 0, 0);
        forms.multiply(0, 0, 1);
        int calls = 3 + everywhere(forms);
        for (int round = 0; round < 3; round++) {
            forms.part(0, 0, 0, 0, 0, 0);
            forms.multiply(0, 0, 0);
            calls += 2 + everywhere(forms);
        }
        for (int r = 0; r < 8; r++) {
            forms.make(r, 16, 9);
            for (int i = 0; i < 9; i++) {
                forms.set(r, 15 - i, i, 7 + i, (1L << 62) - 57 * i - r);
            }
            forms.length(r, 15 - r, r, true);
            calls += 11;
        }
        return calls;
    }

    /** One cell of register 0 by itself and by a power of 2. */
    private static int longer(ExactForms forms, int power) {
        forms.part(0, 0, 0, 0, 0, 0);
        forms.multiply(0, 0, 0);
        forms.make(1, 1, 1);
        forms.set(1, 0, 0, 1L << power / 2, 1);
        forms.multiply(0, 0, 1);
        forms.multiply(0, 0, 1);
        return 6;
    }

    /** Sixteen rows and columns of the one cell of register 0, in all registers. */
    private static int everywhere(ExactForms forms) {
        for (int i = 0; i < 4; i++) {
            forms.beside(0, 0, 0);
        }
        forms.turn(0, 0);
        for (int i = 0; i < 4; i++) {
            forms.beside(0, 0, 0);
        }
        for (int r = 1; r < 8; r++) {
            forms.turn(r, 0);
        }
        return 16;
    }

    /** Sixteen rows with eight columns of that cell and eight of 0, in all registers, then exchanged. */
    private static int halfEverywhere(ExactForms forms) {
        for (int i = 0; i < 3; i++) {
            forms.beside(0, 0, 0);
        }
        forms.turn(0, 0);
        for (int i = 0; i < 4; i++) {
            forms.beside(0, 0, 0);
        }
        forms.turn(0, 0);
        forms.make(1, 16, 8);
        forms.beside(0, 0, 1);
        int calls = 11 + copyEverywhere(forms);
        forms.part(1, 0, 0, 15, 8, 15);
        forms.part(2, 0, 0, 15, 0, 7);
        forms.beside(0, 1, 2);
        return calls + 3 + copyEverywhere(forms);
    }

    private static int copyEverywhere(ExactForms forms) {
        for (int r = 1; r < 8; r++) {
            forms.part(r, 0, 0, 15, 0, 15);
        }
        return 7;
    }

    /** Cells of 9, 19, .. 119 bits: the forms' numbers reach WEIGHT's bound step by step. */
    private static int everyForm(ExactForms forms) {
        int calls = 0;
        forms.make(0, 16, 16);
        for (int i = 0; i < 256; i++) {
            forms.set(0, i / 16, i % 16, (i * 7919L + 13 * i * i) % 509 - 254, 1);
            calls++;
        }
        forms.unit(7, 16);
        for (int i = 0; i < 16; i++) {
            forms.set(7, i, i, 1 << 10, 1);
        }
        calls += 18;
        for (int round = 0; round < 12; round++) {
            forms.echelon(1, 0);
            forms.kernel(2, 0);
            forms.solve(2, 0, 7);
            forms.invert(3, 0);
            forms.determinant(4, 0);
            forms.hermite(5, 0);
            forms.smith(6, 0);
            forms.length(3, 5, 5, true);
            forms.multiply(0, 0, 7);
            calls += 9;
        }
        return calls;
    }

    /** A sum of products of 4000 bits by 4000, refused, and sums refused. */
    private static int longProducts(ExactForms forms) {
        forms.set(0, 0, 0, 1L << 31, 1);
        forms.set(7, 0, 0, 1L << 62, 1);
        for (int i = 0; i < 64; i++) {
            forms.multiply(0, 0, 7);
        }
        forms.unit(1, 1);
        forms.add(1, 0, 1, true);
        forms.add(1, 1, 0, false);
        for (int i = 0; i < 3; i++) {
            forms.beside(1, 1, 1);
        }
        forms.turn(2, 1);
        for (int i = 0; i < 4; i++) {
            forms.beside(2, 2, 2);
        }
        forms.turn(3, 2);
        Check.thrown(() -> forms.multiply(4, 3, 2));
        Check.thrown(() -> forms.add(4, 3, 3, false));
        return 80;
    }

    /** What the run of longer and longer numbers leaves behind is as due. */
    private static void longNumbersStand(Check check) {
        for (int r = 0; r < 8; r++) {
            // A new one each time, as 512 calls do not reach to read all registers.
            ExactForms forms = new ExactForms();
            longerAndLonger(forms);
            check.due("rows", forms.size(r, false), 16);
            check.due("columns", forms.size(r, true), 16);
            for (int i = 0; i < 256; i++) {
                check.due("2^3978 in the right half", forms.length(r, i / 16, i % 16, false), i % 16 < 8 ? 0 : 3979);
            }
        }
    }

    private static long allocated() {
        return THREADS.getThreadAllocatedBytes(Thread.currentThread().getId());
    }
}
