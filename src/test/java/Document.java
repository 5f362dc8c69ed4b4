import java.io.IOException;
import java.nio.file.Files;
import java.nio.file.Path;
import java.util.ArrayList;
import java.util.Arrays;
import java.util.List;
import java.util.regex.Matcher;
import java.util.regex.Pattern;

/** The document by its sections, and which of its words the tests quote. */
final class Document {
    static final int PROMISES = 36;

    // Section 0 is all that stands ahead of promise 1.
    private final String[] sections = new String[PROMISES + 1];
    private final boolean[][] quoted = new boolean[PROMISES + 1][];

    /** What says nothing by itself: headings, a call's own line, marks of blocks and parts. */
    private static final Pattern FRAME = Pattern.compile("## Terms|## Promise \\d+: .*?`[^`]*`:|```(text)?|==== \\d");
    private static final Pattern WORD = Pattern.compile("[A-Za-z0-9]+");

    Document(Path path) throws IOException {
        String text = Files.readString(path).replaceAll("\\s+", " ");
        int end = text.indexOf("## Not promised");
        for (int promise = PROMISES; promise >= 0; promise--) {
            int start = promise == 0 ? 0 : text.indexOf("## Promise " + promise + ":");
            if (start < 0 || end < start) throw new IOException("no promise " + promise + " in " + path);
            sections[promise] = text.substring(start, end);
            quoted[promise] = new boolean[end - start];
            end = start;
        }
    }

    /** Whether the sentence stands, once and no more, in the promise's section or else ahead of all promises. */
    boolean quote(int promise, String sentence) {
        int section = sections[promise].contains(sentence) ? promise : 0;
        int at = sections[section].indexOf(sentence);
        if (at < 0 || sections[section].indexOf(sentence, at + 1) >= 0) return false;
        Arrays.fill(quoted[section], at, at + sentence.length(), true);
        return true;
    }

    /** The words that no test has quoted. */
    List<String> unquoted() {
        List<String> found = new ArrayList<>();
        for (int section = 0; section <= PROMISES; section++) {
            String text = sections[section];
            markFrame(section);
            // What stands ahead of the terms is what the document is about, and the face, which FaceTest looks at.
            int from = section == 0 ? text.indexOf("## Terms") : 0;
            Matcher word = WORD.matcher(text);
            for (int at = from; word.find(at); at = word.end()) {
                if (quoted[section][word.start()]) continue;
                int end = Math.min(text.length(), word.end() + 30);
                found.add("section " + section + ": " + text.substring(Math.max(0, word.start() - 30), end));
            }
        }
        return found;
    }

    private void markFrame(int section) {
        Matcher frame = FRAME.matcher(sections[section]);
        while (frame.find()) {
            Arrays.fill(quoted[section], frame.start(), frame.end(), true);
        }
    }
}
