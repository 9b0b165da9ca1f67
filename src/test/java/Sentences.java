import java.io.IOException;
import java.nio.file.Files;
import java.nio.file.Path;
import java.util.LinkedHashMap;
import java.util.Map;

/**
 * The sentences of the document and the tests that stand for them: each test quotes what it tests,
 * and in the end no words of the parts under test may be left without a quote.
 */
final class Sentences {
    private static final Path DOCUMENT = Path.of("../shared/DOC.md");

    private final Due due;
    private final Map<String, String> left = new LinkedHashMap<>();
    private final boolean told = Files.exists(DOCUMENT);

    Sentences(Due due) throws IOException {
        this.due = due;
        if (told) {
            String part = "";
            for (String line : Files.readAllLines(DOCUMENT)) {
                if (line.startsWith("## ")) {
                    part = line.substring(3).replaceAll(":.*", "");
                } else if (!line.startsWith("```") && !line.startsWith("Ahead of the calls")) {
                    left.merge(part, plain(line), (a, b) -> a + " " + b);
                }
            }
        }
    }

    private static String plain(String text) {
        return text.replaceAll("========", " ").replaceAll("\\s+", " ").trim();
    }

    /** Runs the test of one sentence; one that compares no answer is none. */
    void test(String part, String sentence, Runnable test) {
        if (told) {
            String text = left.getOrDefault(part, "");
            due.is(part + " says: " + sentence, text.contains(sentence) ? 1 : 0, 1);
            left.put(part, text.replace(sentence, "|"));
        }
        int before = due.calls();
        test.run();
        due.is("a test of: " + sentence, due.calls() > before ? 1 : 0, 1);
    }

    /** No word of a part may be left. */
    void nothingLeft(String part) {
        String words = left.getOrDefault(part, "").replaceAll("`[^`]*`:?", "").replaceAll("[| .;:]", "");
        due.is(part + " has sentences without a test: " + words, words.length(), 0);
    }
}
