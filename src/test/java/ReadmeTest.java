import java.io.IOException;
import java.lang.reflect.Method;
import java.lang.reflect.Modifier;
import java.nio.charset.StandardCharsets;
import java.nio.file.Files;
import java.nio.file.Path;

/** The example in README.md is the one that is run here, and every call of the face has its line there. */
public final class ReadmeTest {
    private static final Path README = Path.of("README.md");
    private static final Path SOURCE = Path.of("src/test/java/ReadmeTest.java");

    public static void main(String[] args) throws IOException {
        Check check = new Check();
        String readme = Files.readString(README, StandardCharsets.UTF_8);
        String source = Files.readString(SOURCE, StandardCharsets.UTF_8);
        example(check);
        check.due("the example", between(readme, "```java\n", "```"),
            between(source, "// begins here\n", "// ends here").replaceAll("(?m)^ {8}| +\\z", ""));
        for (Method method : ExactForms.class.getDeclaredMethods()) {
            if (Modifier.isPublic(method.getModifiers())) {
                check.due(method.getName() + " has its line, with all it takes",
                    namesIn(readme, method.getName()), method.getParameterCount());
            }
        }
        check.end("ReadmeTest");
    }

    private static void example(Check check) {
        // begins here
        ExactForms forms = new ExactForms();
        forms.make(0, 2, 2);                       // register 0: two rows, two columns of 0
        forms.set(0, 0, 0, 1, 2);                  // row 0, column 0 becomes 1/2
        forms.set(0, 0, 1, 1, 3);
        forms.set(0, 1, 1, -4, 1);
        boolean found = forms.invert(1, 0);        // register 1 becomes the inverse of register 0: true
        forms.multiply(2, 0, 1);                   // register 2 becomes their product,
        forms.unit(3, 2);
        boolean isUnit = forms.same(2, 3);         // which is the unit matrix: true
        int sign = forms.sign(1, 1, 1);            // a cell is read by its sign, here of -1/4: -1,
        int bits = forms.length(1, 1, 1, true);    // the length of its upper or lower part, here of 4: 3,
        int low = forms.limb(1, 1, 1, true, 0);    // and that part's 32 bits from bit 32 k on: 4
        // ends here
        check.holds("there is an inverse", found);
        check.holds("times it is the unit matrix", isUnit);
        check.due("the sign of -1/4", sign, -1);
        check.due("the length of 4", bits, 3);
        check.due("the limb of 4", low, 4);
    }

    /** How many names stand in brackets behind the call's in the table; -1 if it has no line. */
    private static int namesIn(String readme, String call) {
        String names = between(readme, "\n| `" + call + "(", ")` | ");
        return names.isEmpty() ? -1 : names.split(", ").length;
    }

    private static String between(String text, String start, String end) {
        int from = text.indexOf(start);
        int to = from < 0 ? -1 : text.indexOf(end, from + start.length());
        return to < 0 ? "" : text.substring(from + start.length(), to);
    }
}
