import com.sun.management.ThreadMXBean;
import java.lang.management.ManagementFactory;

/**
 * All calls of one run live in one room of some 7.3 million fields and elements: an object takes what it
 * needs once, and dear calls over and over take nothing more.
 */
public final class RoomTest {
    /** A sixth of the room, by 4 bytes each; what numbers of full length take at most is counted in. */
    private static final long MOST_BYTES = 5_000_000;
    private static final ThreadMXBean THREADS = (ThreadMXBean) ManagementFactory.getThreadMXBean();

    public static void main(String[] args) {
        Check check = new Check();
        allocated();
        long start = allocated();
        ExactForms forms = new ExactForms();
        long made = allocated() - start;
        System.out.println("a new object: " + made + " bytes");
        check.holds("a new object is small: " + made, made < 600_000);
        Ratio[][] heavy = Model.fractions(new Draws(21).wholes(16, 16, 121, 0));
        Check.put(forms, 0, heavy);
        everyForm(forms);
        long before = allocated();
        for (int round = 0; round < 40; round++) {
            everyForm(forms);
        }
        long used = allocated() - before;
        System.out.println("forms again: " + used + " bytes");
        check.holds("dear calls take nothing more: " + used, used < 20_000);
        long most = longest();
        System.out.println("numbers of full length: " + most + " bytes");
        check.holds("numbers of full length: " + most, most < MOST_BYTES);
        check.end("RoomTest");
    }

    private static void everyForm(ExactForms forms) {
        forms.echelon(1, 0);
        forms.kernel(2, 0);
        forms.solve(2, 0, 0);
        forms.invert(3, 0);
        forms.determinant(4, 0);
        forms.hermite(5, 0);
        forms.smith(6, 0);
        forms.multiply(7, 0, 3);
        forms.length(3, 5, 5, true);
    }

    /** Five registers get 125 limbs in every cell at some time, and the draft twice as many. */
    private static long longest() {
        long before = allocated();
        ExactForms forms = new ExactForms();
        Check.power(forms, 5, 2, 1, 3999);
        for (int r = 0; r < 5; r++) {
            Check.fill(forms, r, 16, 8, 5);
            forms.make(6, 16, 8);
            forms.beside(r, 6, r);
            Check.fill(forms, r, 16, 8, 5);
            forms.beside(r, r, 6);
            Check.fill(forms, r, 16, 8, 5);
        }
        Check.fill(forms, 6, 8, 16, 5);
        Check.thrown(() -> forms.multiply(7, 4, 6));
        return allocated() - before;
    }

    private static long allocated() {
        return THREADS.getThreadAllocatedBytes(Thread.currentThread().getId());
    }
}
