import java.io.IOException;
import java.nio.file.Files;
import java.nio.file.Path;
import java.util.ArrayList;
import java.util.List;
import java.util.regex.Matcher;
import java.util.regex.Pattern;

/** The document by its sections, and which of its words the tests quote. */
final class Document {
    static final int PROMISES = 36;

    // Section 0 is all that stands ahead of promise 1.
    private final String[] sections = new String[PROMISES + 1];
    private final boolean[][] quoted = new boolean[PROMISES + 1][];

    /** Words by which a sentence names a boundary: ranges, what is empty or full, what comes round, answers below 0. */
    private static final Pattern EDGE = Pattern.compile("-?\\d+ \\.\\. \\d+|\\d+ to \\d+|\\b("
        + "BAD|NOT|FULL|NONE|NULL|CAST|INDEX|SIZE|FAULTS?|none|nobody|nothing|empty|lost|alike|too|at first|left over|"
        + "or more|and more|at most|once|twice|like ones|refused|the end|can't|least|lowest|first of|less)\\b");

    Document(Path path) throws IOException {
        String text = Files.readString(path).replaceAll("\\s+", " ");
        int end = text.indexOf("## Not promised");
        for (int promise = PROMISES; promise >= 0; promise--) {
            int start = promise == 0 ? 0 : text.indexOf("## Promise " + promise + ":");
            if (start < 0 || end < start) throw new IOException("no promise " + promise + " in " + path);
            sections[promise] = text.substring(start, end);
            quoted[promise] = new boolean[end - start];
            end = start;
        }
    }

    /** Whether the sentence stands, once and no more, in the promise's section or else ahead of all promises. */
    boolean quote(int promise, String sentence) {
        int section = sections[promise].contains(sentence) ? promise : 0;
        int at = sections[section].indexOf(sentence);
        if (at < 0 || sections[section].indexOf(sentence, at + 1) >= 0) return false;
        for (int i = at; i < at + sentence.length(); i++) {
            quoted[section][i] = true;
        }
        return true;
    }

    /** Where the document names a boundary in words that no test has quoted. */
    List<String> unquoted() {
        List<String> found = new ArrayList<>();
        for (int section = 0; section <= PROMISES; section++) {
            String text = sections[section];
            Matcher edge = EDGE.matcher(text);
            // What stands ahead of the terms is what the document is about, and the face, which FaceTest looks at.
            int from = section == 0 ? text.indexOf("## Terms") : 0;
            for (int at = from; edge.find(at); at = edge.end()) {
                if (quoted[section][edge.start()]) continue;
                int end = Math.min(text.length(), edge.end() + 30);
                found.add("section " + section + ": " + text.substring(Math.max(0, edge.start() - 30), end));
            }
        }
        return found;
    }
}
