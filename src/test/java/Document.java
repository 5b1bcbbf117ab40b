import java.io.IOException;
import java.io.UncheckedIOException;
import java.nio.file.Files;
import java.nio.file.Path;
import java.util.ArrayList;
import java.util.BitSet;
import java.util.List;
import java.util.regex.Matcher;
import java.util.regex.Pattern;

/** The document's words: the description, each promise and what it is, and which of them tests quote. */
final class Document {
    static final int DESCRIPTION = 0;
    static final int PROMISES = 34;
    static final int WHAT_IT_IS = PROMISES + 1;
    static final int PARTS = PROMISES + 2;

    private final String[] parts = new String[PARTS];
    private final BitSet[] quoted = new BitSet[PARTS];

    Document() {
        String whole = text();
        parts[DESCRIPTION] = part(whole, "Description");
        for (int promise = 1; promise <= PROMISES; promise++) {
            parts[promise] = part(whole, "Promise " + promise + ":[^\n]*");
        }
        parts[WHAT_IT_IS] = part(whole, "What it is");
        for (int part = 0; part < PARTS; part++) {
            quoted[part] = new BitSet();
        }
    }

    /** Tests run in the project's directory. */
    static String text() {
        try {
            return Files.readString(Path.of("../shared/DOC.md"));
        } catch (IOException unread) {
            throw new UncheckedIOException(unread);
        }
    }

    /** A part without its heading, signature and lines of dashes, and with one blank for each run of them. */
    private static String part(String whole, String heading) {
        Matcher found = Pattern.compile("(?ms)^## " + heading + "\n(.*?)^## ").matcher(whole);
        if (!found.find()) {
            throw new IllegalStateException("the document has no part " + heading);
        }
        String words = found.group(1).replaceAll("(?m)^`[^`\n]*`$", "").replaceAll("(?m)^----.*$", "");
        return words.replaceAll("\\s+", " ").trim();
    }

    /** Marks the words as quoted and tells whether the part has them. */
    boolean quote(int part, String words) {
        int at = parts[part].indexOf(words);
        if (at < 0) {
            return false;
        }
        quoted[part].set(at, at + words.length());
        return true;
    }

    /** The words of a part that no test has quoted. */
    List<String> unquoted(int part) {
        List<String> left = new ArrayList<>();
        int end = parts[part].length();
        for (int from = quoted[part].nextClearBit(0); from < end;) {
            int next = quoted[part].nextSetBit(from);
            int to = next < 0 ? end : next;
            String words = parts[part].substring(from, to).trim();
            if (words.chars().anyMatch(Character::isLetterOrDigit)) {
                left.add(words);
            }
            from = quoted[part].nextClearBit(to);
        }
        return left;
    }
}
