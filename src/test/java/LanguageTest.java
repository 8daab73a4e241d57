import java.nio.charset.StandardCharsets;
import java.nio.file.Files;
import java.nio.file.Path;
import java.util.List;
import java.util.regex.Pattern;

/** What of the language's rules can be told from the text of the class alone. */
public final class LanguageTest {
    private static final Path SOURCE = Path.of("src/main/java/ExactForms.java");
    private static final String[] BANNED = {"\\btry\\b", "\\bcatch\\b", "\\bfinally\\b", "\\bsynchronized\\b",
        "\\bassert\\b", "->", "::", "\\bpackage\\b", "\\w+Exact\\b", "\\bThread\\b", "\\bRandom\\b", "BigInteger",
        "System\\.(?!arraycopy)", "Math\\.(?!min|max|abs)", "Arrays\\.(?!fill)", "\\bdouble\\b", "\\bfloat\\b",
        "throw new (?!IllegalArgument|IndexOutOfBounds|UnsupportedOperation)", "throw (?!new )",
        "static (?!final|boolean|int|long|void)", "\\bnull\\b"};
    private static final String CLASS = ".*\\b(class|record|enum|interface) \\w+.*";
    private static final String CONSTRUCTOR = " +(public )?[A-Z]\\w*\\(.*";
    private static final String MAKES = ".*(\\bnew\\b|copyOf|clone).*";

    private final Check check = new Check();
    private int classes;
    private boolean inside;
    private int methods;
    private int start = -1;
    private boolean isConstructor;

    public static void main(String[] args) throws java.io.IOException {
        List<String> lines = Files.readAllLines(SOURCE, StandardCharsets.US_ASCII);
        LanguageTest test = new LanguageTest();
        boolean comment = false;
        for (int i = 0; i < lines.size(); i++) {
            String line = lines.get(i);
            comment |= line.trim().startsWith("/*");
            if (!comment) {
                test.look(i + 1, line.replaceAll("\"[^\"]*\"|//.*", ""));
            }
            comment &= !line.contains("*/");
        }
        test.check.holds("at most twelve classes: " + test.classes, test.classes <= 12);
        test.check.holds("methods are found: " + test.methods, test.methods > 100);
        test.check.end("LanguageTest");
    }

    private void look(int number, String code) {
        for (String word : BANNED) {
            check.holds("line " + number + " has no " + word, !Pattern.compile(word).matcher(code).find());
        }
        check.holds("line " + number + " imports", !code.startsWith("import")
            || code.equals("import java.util.Arrays;"));
        if (code.matches(CLASS)) {
            classes++;
            inside = code.startsWith("    ");
        } else if (code.equals("    }") && start < 0) {
            inside = false;
        } else {
            lookAtMember(number, code);
        }
    }

    /** A method's first and last line stand further to the left than all between them. */
    private void lookAtMember(int number, String code) {
        String margin = inside ? "        " : "    ";
        boolean atMargin = code.startsWith(margin) && !code.startsWith(margin + " ");
        if (atMargin && code.contains("(") && !code.contains(";")) {
            start = number;
            methods++;
            isConstructor = code.matches(CONSTRUCTOR);
            check.holds("line " + number + " has at most seven parameters",
                code.chars().filter(c -> c == ',').count() < 7);
        } else if (atMargin && code.endsWith("}")) {
            check.holds("the method before line " + number + " is short", number - start <= 60);
            start = -1;
        } else if (start >= 0 && !isConstructor) {
            check.holds("line " + number + " makes nothing in a call",
                !code.replace("throw new", "throw").matches(MAKES));
        }
    }
}
