import java.nio.charset.StandardCharsets;
import java.nio.file.Files;
import java.nio.file.Path;
import java.util.List;
import java.util.regex.Matcher;
import java.util.regex.Pattern;

/** What of the language's rules can be told from the text of the class alone. */
public final class LanguageTest {
    private static final Path SOURCE = Path.of("src/main/java/ExactForms.java");
    private static final String[] BANNED = {"\\btry\\b", "\\bcatch\\b", "\\bfinally\\b", "\\bsynchronized\\b",
        "\\bassert\\b", "->", "::", "\\bpackage\\b", "\\w+Exact\\b", "\\bThread\\b", "\\bRandom\\b", "BigInteger",
        "System\\.(?!arraycopy)", "Math\\.(?!min|max|abs)", "Arrays\\.(?!fill|copyOf)", "\\bdouble\\b", "\\bfloat\\b",
        "throw new (?!IllegalArgument|IndexOutOfBounds|UnsupportedOperation)", "throw (?!new )",
        "static (?!final|boolean|int|long|void)", "\\bnull\\b"};

    public static void main(String[] args) throws java.io.IOException {
        Check check = new Check();
        List<String> lines = Files.readAllLines(SOURCE, StandardCharsets.US_ASCII);
        int classes = 0;
        int start = -1;
        boolean comment = false;
        for (int i = 0; i < lines.size(); i++) {
            String line = lines.get(i);
            comment |= line.trim().startsWith("/*");
            if (!comment) {
                String code = line.replaceAll("\"[^\"]*\"|//.*", "");
                for (String word : BANNED) {
                    Matcher found = Pattern.compile(word).matcher(code);
                    check.holds("line " + (i + 1) + " has no " + word, !found.find());
                }
                check.holds("line " + (i + 1) + " imports", !code.startsWith("import")
                    || code.equals("import java.util.Arrays;"));
                classes += code.matches(".*\\b(class|record|enum|interface) \\w+.*") ? 1 : 0;
                if (code.matches("( {4}| {8})(public|private|static|void|int|long|boolean|Whole|Matrix)?.*\\(.*")
                        && !code.contains(";")) {
                    start = i;
                    check.holds("line " + (i + 1) + " has at most seven parameters",
                        code.chars().filter(c -> c == ',').count() < 7);
                } else if (start >= 0 && code.matches("( {4}| {8})\\}")) {
                    check.holds("the method of line " + (start + 1) + " is short", i - start <= 60);
                    start = -1;
                }
            }
            comment &= !line.contains("*/");
        }
        check.holds("at most twelve classes: " + classes, classes <= 12);
        check.end("LanguageTest");
    }
}
