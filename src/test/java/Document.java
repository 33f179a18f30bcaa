import java.io.IOException;
import java.nio.charset.StandardCharsets;
import java.nio.file.Files;
import java.nio.file.Path;
import java.util.ArrayList;
import java.util.List;
import java.util.regex.Matcher;
import java.util.regex.Pattern;

/** The terms and promises of DOC.md, and which of their sentences a test has quoted. */
final class Document {
    static final int PROMISES = 35;
    /** How long an object is used. */
    static final int LIFE = PROMISES + 1;
    private static final Path FILE = Path.of("../shared/DOC.md");

    private final boolean here;
    /** Part 0 is Terms, the promises follow by number. */
    private final String[] parts = new String[LIFE + 1];
    private final boolean[][] quoted = new boolean[LIFE + 1][];

    Document() throws IOException {
        here = Files.isReadable(FILE);
        if (!here) {
            System.out.println("there is no " + FILE + ": quotes are not looked up");
            return;
        }
        String whole = Files.readString(FILE, StandardCharsets.UTF_8);
        parts[0] = plain(between(whole, "\n## Terms\n", "\n## Promise 1:"));
        for (int n = 1; n <= PROMISES; n++) {
            String next = n < PROMISES ? "\n## Promise " + (n + 1) + ":" : "\n## Not promised";
            parts[n] = plain(between(whole, "\n## Promise " + n + ":", next).replaceFirst("(?s)^.*?`: ", ""));
        }
        parts[LIFE] = plain(between(whole, "sheets that may be missing.\n", "\n## The public face"));
        for (int n = 0; n <= LIFE; n++) {
            quoted[n] = new boolean[parts[n].length()];
        }
    }

    private static String between(String whole, String from, String to) {
        int begin = whole.indexOf(from) + from.length();
        return whole.substring(begin, whole.indexOf(to, begin));
    }

    /** Without the marks that are no sentences, and with one blank for each gap. */
    private static String plain(String part) {
        return part.replaceAll("(?m)^```.*$", " ").replaceAll("==== \\d", " ")
            .replaceAll("Ahead of the calls .* the interface says: ---- (1 doors, men\\.|what is done\\.|2 foretold\\.|)",
                " ").replaceAll("\\s+", " ");
    }

    /** Whether the sentence stands in the part; it counts as quoted then. */
    boolean says(int part, String sentence) {
        if (!here) {
            return true;
        }
        int at = parts[part].indexOf(sentence);
        if (at < 0) {
            return false;
        }
        for (; at >= 0; at = parts[part].indexOf(sentence, at + 1)) {
            for (int k = 0; k < sentence.length(); k++) {
                quoted[part][at + k] = true;
            }
        }
        return true;
    }

    static String name(int part) {
        return part == 0 ? "Terms" : part == LIFE ? "What it is" : "Promise " + part;
    }

    /** What no test has quoted yet. */
    List<String> left() {
        List<String> left = new ArrayList<>();
        for (int n = 0; here && n <= LIFE; n++) {
            StringBuilder rest = new StringBuilder();
            for (int k = 0; k < parts[n].length(); k++) {
                rest.append(quoted[n][k] ? '\n' : parts[n].charAt(k));
            }
            Matcher stretch = Pattern.compile("[^\n]*\\w[^\n]*").matcher(rest);
            while (stretch.find()) {
                left.add(name(n) + ": " + stretch.group().trim());
            }
        }
        return left;
    }
}
