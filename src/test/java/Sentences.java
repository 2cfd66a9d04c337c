import java.io.IOException;
import java.nio.file.Files;
import java.nio.file.Path;
import java.util.LinkedHashMap;
import java.util.Map;

/** The document's sentences. A test names those that it tests, word by word, so that none is forgotten or has changed unseen. */
final class Sentences {
    private static final Path DOCUMENT = Path.of("../shared/DOC.md");

    private final Check check;
    private final Map<String, String> unnamed = new LinkedHashMap<>();

    Sentences(Check check) throws IOException {
        this.check = check;
        for (String section : Files.readString(DOCUMENT).split("\n## ")) {
            int end = section.indexOf('\n');
            if (end < 0) continue;
            String title = section.substring(0, end).replaceAll(":.*", "").trim();
            unnamed.put(title, plain(section.substring(end)));
        }
    }

    /** Without the signatures, the marks between sections, and what is said of the interface. */
    private static String plain(String section) {
        return section.replaceAll("`[^`\n]*\\)`:", " ").replaceAll("======== [0-9] ", " ").replaceAll("```(text)?", " ")
            .replaceAll("Ahead of the calls [^\n]*", " ").replaceAll("\\s+", " ");
    }

    void name(String title, String words) {
        String left = unnamed.getOrDefault(title, "");
        check.holds("the document says in '" + title + "', and no other test has named it: " + words, left.contains(words));
        int at = left.indexOf(words);
        if (at >= 0) unnamed.put(title, left.substring(0, at) + "|" + left.substring(at + words.length()));
    }

    void allNamed(String title) {
        String left = unnamed.getOrDefault(title, "no such section").replaceAll("[| ]+", " ").trim();
        check.holds("no test names this of '" + title + "': " + left, left.isEmpty());
    }
}
