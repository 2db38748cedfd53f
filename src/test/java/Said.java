import java.io.IOException;
import java.nio.file.Files;
import java.nio.file.Path;

/**
 * The document's own words, from its first line to its last. A test says which of them it looks at;
 * words that were said by no test are a fault, and so are words that the document does not have.
 */
final class Said {
    private static final Path DOC = Path.of("../shared/DOC.md");
    private static String text;
    private static boolean[] said;

    private Said() {
    }

    /** Where there is no document, the tests are run all the same. */
    static void open() throws IOException {
        if (!Files.isReadable(DOC)) {
            System.out.println("no " + DOC + ": its words are not looked for");
            return;
        }
        StringBuilder s = new StringBuilder();
        for (String line : Files.readAllLines(DOC)) {
            if (!line.startsWith("#") && !line.startsWith("```")) {
                s.append(line).append(' ');
            }
        }
        text = s.toString().replaceAll("\\s+", " ").trim();
        said = new boolean[text.length()];
    }

    static void says(String words) {
        if (text == null) {
            return;
        }
        int at = text.indexOf(words);
        Due.holds("the document says '" + words + "'", at >= 0);
        Due.holds("the document says it once: '" + words + "'", at == text.lastIndexOf(words));
        for (int i = at; at >= 0 && i < at + words.length(); i++) {
            said[i] = true;
        }
    }

    static void end() {
        int from = 0;
        while (text != null && from < said.length) {
            int to = from;
            while (to < said.length && said[to] == said[from]) {
                to++;
            }
            String part = text.substring(from, to).trim();
            Due.holds("some test looks at '" + part + "'", said[from] || part.isEmpty());
            from = to;
        }
    }
}
