import java.io.IOException;
import java.nio.file.Files;
import java.nio.file.Path;
import java.util.ArrayList;
import java.util.BitSet;
import java.util.List;

/** The document's words, and which of them a test has named: a sentence that none names has no test. */
final class Document {
    /** The part ahead of the promises: what the class is, and the terms. */
    static final int TERMS = 0;
    static final int PROMISES = 33;

    private static final Path PLACE = Path.of("../shared/DOC.md");

    private final String whole = Files.readString(PLACE);
    private final String[] text = new String[PROMISES + 1];
    private final String[] heading = new String[PROMISES + 1];
    private final BitSet[] named = new BitSet[PROMISES + 1];

    Document() throws IOException {
        text[TERMS] = plain(between(whole, "An object is used", "## The public face"))
            + " " + plain(between(whole, "## Terms", "Ahead of the calls"));
        for (int promise = 1; promise <= PROMISES; promise++) {
            String part = between(whole, "## Promise " + promise + ":", "\n## ");
            heading[promise] = part.substring(part.indexOf(": ") + 2, part.indexOf('\n'));
            text[promise] = plain(part.substring(part.indexOf('\n'))).replaceFirst("^`[^`]*`: ", "");
        }
        for (int section = 0; section <= PROMISES; section++) {
            named[section] = new BitSet();
        }
    }

    private static String between(String whole, String start, String end) {
        int from = whole.indexOf(start);
        int to = whole.indexOf(end, from + 1);
        if (from < 0 || to < 0) {
            throw new IllegalStateException("the document has no \"" + start + "\" with \"" + end + "\" behind it");
        }
        return whole.substring(from, to);
    }

    /** Without the marks of headings, lists and boxes, and with one space between words. */
    private static String plain(String part) {
        return part.replaceAll("(?m)^(## Terms|```(text)?|\\d\\. )", " ").replaceAll("\\s+", " ").trim();
    }

    String text(int section) {
        return text[section];
    }

    /** What stands behind the number of a promise: the name of its call, but for the first. */
    String heading(int promise) {
        return heading[promise];
    }

    /** The document's words for one of the constants. */
    String meaning(String constant) {
        String row = between(whole, "`" + constant + " = ", "\n");
        return row.substring(row.indexOf("`: ") + 3);
    }

    /** The lines of the public face, without those of the class itself. */
    List<String> face() {
        String block = between(whole, "public final class LoadYard {\n", "\n}");
        List<String> rows = new ArrayList<>();
        for (String line : block.substring(block.indexOf('\n') + 1).split("\n")) {
            rows.add(line.trim());
        }
        return rows;
    }

    /** Whether the section has these words; they count as named then. */
    boolean name(int section, String words) {
        int at = text[section].indexOf(words);
        if (at < 0) {
            return false;
        }
        named[section].set(at, at + words.length());
        return true;
    }

    /** What no test has named, with the section ahead of it. */
    List<String> notNamed() {
        List<String> rows = new ArrayList<>();
        for (int section = 0; section <= PROMISES; section++) {
            int from = named[section].nextClearBit(0);
            while (from < text[section].length()) {
                int to = named[section].nextSetBit(from);
                to = to < 0 ? text[section].length() : to;
                String left = text[section].substring(from, to).trim();
                if (!left.isEmpty()) {
                    rows.add(title(section) + ": " + left);
                }
                from = named[section].nextClearBit(to);
            }
        }
        return rows;
    }

    static String title(int section) {
        return section == TERMS ? "terms" : "promise " + section;
    }
}
