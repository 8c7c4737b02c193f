import java.io.IOException;
import java.io.UncheckedIOException;
import java.nio.file.Files;
import java.nio.file.Path;
import java.util.ArrayList;
import java.util.List;

/** DOC.md by its promises, the Terms being number 0: a test can only quote what stands there. */
final class Doc {
    static final int TERMS = 0, PROMISES = 36;

    private final String[] names = new String[PROMISES + 1];
    private final String[] words = new String[PROMISES + 1];

    Doc() {
        String text = text();
        names[TERMS] = "Terms";
        // Behind this the Terms only tell how the calls are grouped.
        words[TERMS] = plain(between(text, "## Terms\n", "\nAhead of the calls"));
        for (int promise = 1; promise <= PROMISES; promise++) {
            String section = between(text, "## Promise " + promise + ": ", "\n## ");
            names[promise] = section.substring(0, section.indexOf('\n'));
            words[promise] = plain(section.substring(section.indexOf("`: ") + 3));
        }
    }

    private static String text() {
        try {
            return Files.readString(Path.of("../shared/DOC.md"));
        } catch (IOException e) {
            throw new UncheckedIOException(e);
        }
    }

    private static String between(String text, String start, String end) {
        int from = text.indexOf(start) + start.length();
        return text.substring(from, text.indexOf(end, from));
    }

    private static String plain(String text) {
        return text.replaceAll("```(text)?|======== \\d", " ").replaceAll("\\s+", " ").trim();
    }

    String nameOf(int promise) {
        return promise == TERMS ? names[TERMS] : "promise " + promise + " " + names[promise];
    }

    boolean says(int promise, String quote) {
        return words[promise].contains(quote);
    }

    /** The Terms by full stops, a promise by semicolons, too; the two dots of a range end nothing. */
    List<String> sentences(int promise) {
        String ends = promise == TERMS ? "(?<![ .])[.](\\s+|$)" : "(?<![ .])[.;](\\s+|$)";
        List<String> found = new ArrayList<>();
        for (String sentence : words[promise].split(ends)) {
            found.add(sentence.trim());
        }
        return found;
    }
}
