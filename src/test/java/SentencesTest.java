import java.io.IOException;
import java.nio.charset.StandardCharsets;
import java.nio.file.DirectoryStream;
import java.nio.file.Files;
import java.nio.file.Path;
import java.util.Arrays;
import java.util.LinkedHashMap;
import java.util.Map;
import java.util.regex.Matcher;
import java.util.regex.Pattern;

/**
 * Every sentence of the document's terms and promises is quoted in a remark before a test of it, in the
 * words of the document: so a sentence without a test, or one that has changed, is seen.
 */
public final class SentencesTest {
    private static final Path DOCUMENT = Path.of("../shared/DOC.md");
    private static final Path TESTS = Path.of("src/test/java");
    private static final Pattern QUOTE = Pattern.compile("(What it is|Terms|Promise \\d+): \"([^\"]+)\"");
    private static final Pattern HEADING = Pattern.compile("(?m)^## (What it is|Terms|Promise \\d+).*$");

    private final Check check = new Check();
    private final Map<String, String> sections = new LinkedHashMap<>();
    /** For each section, which of its characters a quote has. */
    private final Map<String, boolean[]> quoted = new LinkedHashMap<>();
    private int quotes;

    public static void main(String[] args) throws IOException {
        SentencesTest test = new SentencesTest();
        test.readDocument();
        test.check.due("terms, promises, and what it is", test.sections.size(), 23);
        try (DirectoryStream<Path> files = Files.newDirectoryStream(TESTS, "*.java")) {
            for (Path file : files) {
                test.findQuotes(file);
            }
        }
        for (String section : test.sections.keySet()) {
            test.check.due(section + ", without a test", test.rest(section), "");
        }
        System.out.println("SentencesTest: " + test.quotes + " remarks quote the document");
        test.check.end("SentencesTest");
    }

    private void readDocument() throws IOException {
        String text = Files.readString(DOCUMENT, StandardCharsets.UTF_8);
        Matcher heading = HEADING.matcher(text);
        while (heading.find()) {
            int end = text.indexOf("\n## ", heading.end());
            String body = text.substring(heading.end(), end < 0 ? text.length() : end);
            // A promise begins with the call as it is written in the face.
            body = plain(body.replaceFirst("^\\s*`[^`]*`: ", ""));
            sections.put(heading.group(1), body);
            quoted.put(heading.group(1), new boolean[body.length()]);
        }
        // What the class is for names no answer of a call.
        String start = sections.get("What it is");
        Arrays.fill(quoted.get("What it is"), 0, Math.max(0, start.indexOf("An object")), true);
    }

    private void findQuotes(Path file) throws IOException {
        String text = plain(Files.readString(file, StandardCharsets.UTF_8).replaceAll("\\n *\\* ?", " "));
        Matcher quote = QUOTE.matcher(text);
        while (quote.find()) {
            String section = quote.group(1);
            String words = quote.group(2);
            String body = sections.getOrDefault(section, "");
            int at = body.indexOf(words);
            check.holds(file.getFileName() + " quotes " + section + ": " + words, at >= 0);
            for (; at >= 0; at = body.indexOf(words, at + 1)) {
                Arrays.fill(quoted.get(section), at, at + words.length(), true);
            }
            quotes++;
        }
    }

    private String rest(String section) {
        StringBuilder rest = new StringBuilder();
        boolean[] has = quoted.get(section);
        for (int i = 0; i < has.length; i++) {
            rest.append(has[i] ? ' ' : sections.get(section).charAt(i));
        }
        return plain(rest.toString());
    }

    private static String plain(String text) {
        return text.replaceAll("\\s+", " ").trim();
    }
}
