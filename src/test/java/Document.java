import java.io.IOException;
import java.nio.file.Files;
import java.nio.file.Path;
import java.util.Map;
import java.util.TreeMap;

/**
 * The document's own words. Each test of a boundary names the words that it looks at; what no test names, and is
 * not set aside as naming no boundary, is left over in the end, and that is a failure.
 */
final class Document {
    static final String WHAT_IT_IS = "What it is", TERMS = "Terms", PROMISE = "Promise ";
    private static final Path PATH = Path.of("../shared/DOC.md");

    /** By chapter, what nobody has named yet. */
    private static final Map<String, String> left = new TreeMap<>();
    private static String latest = "";
    private static int answersAhead = 0;

    private Document() {
    }

    static void open() throws IOException {
        for (String chapter : Files.readString(PATH).split("(?m)^## ")) {
            String head = chapter.lines().findFirst().orElse("");
            String words = chapter.substring(head.length())
                .replaceAll("(?m)^```.*$", " ")
                .replaceAll("(?m)^`[^`]*`:", " ")
                .replaceAll("\\s+", " ");
            left.put(head.replaceAll(":.*", ""), words);
        }
    }

    /** A test of these words begins, and lasts until the next one does. */
    static void says(String chapter, String words) {
        endTest();
        setAside(chapter, words);
        latest = words;
        answersAhead = Checks.answers();
    }

    static void says(int promise, String words) {
        says(PROMISE + promise, words);
    }

    /** These words name no boundary. */
    static void setAside(String chapter, String words) {
        String[] around = left.getOrDefault(chapter, "").split(java.util.regex.Pattern.quote(words), -1);
        Checks.due("how often '" + chapter + "' says, for one test alone: " + words, around.length - 1, 1);
        left.put(chapter, String.join(" | ", around));
    }

    private static void endTest() {
        Checks.holds("there is a test of: " + latest, latest.isEmpty() || Checks.answers() > answersAhead);
    }

    static void close() {
        endTest();
        Checks.due("chapters of promises", left.keySet().stream().filter(head -> head.startsWith(PROMISE)).count(), 25);
        for (Map.Entry<String, String> chapter : left.entrySet()) {
            boolean binds = chapter.getKey().equals(TERMS) || chapter.getKey().startsWith(PROMISE);
            for (String words : chapter.getValue().split("\\|")) {
                boolean empty = words.chars().noneMatch(Character::isLetterOrDigit);
                Checks.holds("'" + chapter.getKey() + "' has a test of: " + words.trim(), !binds || empty);
            }
        }
    }
}
