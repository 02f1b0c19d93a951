import java.io.IOException;
import java.nio.file.Files;
import java.nio.file.Path;
import java.util.BitSet;
import java.util.LinkedHashMap;
import java.util.Map;

/** The text of the document, and which of its words have been quoted. */
final class Document {
    private final Map<String, StringBuilder> texts = new LinkedHashMap<>();
    private final Map<String, BitSet> quoted = new LinkedHashMap<>();

    Document(Path path) throws IOException {
        String heading = "";
        boolean isCode = false;
        for (String line : Files.readAllLines(path)) {
            if (line.startsWith("```")) {
                isCode = !isCode;
            } else if (line.startsWith("## ")) {
                heading = line;
                texts.put(heading, new StringBuilder());
                quoted.put(heading, new BitSet());
            } else if (!isCode && isText(line) && texts.containsKey(heading)) {
                texts.get(heading).append(plain(line)).append(' ');
            }
        }
    }

    /** Signatures are held by LanguageTest, and lines such as "---- trains" only part the methods. */
    private static boolean isText(String line) {
        return !line.isBlank() && !line.startsWith("`") && !line.startsWith("----");
    }

    private static String plain(String line) {
        return line.replace("`", "").replaceFirst("^- ", "").replaceFirst("^[0-9]\\. ", "").strip();
    }

    /** Marks the words wherever they stand under the heading; false if they do not stand there. */
    boolean quote(String heading, String words) {
        StringBuilder text = texts.get(heading);
        int at = text == null ? -1 : text.indexOf(words);
        boolean isFound = at >= 0;
        while (at >= 0) {
            quoted.get(heading).set(at, at + words.length());
            at = text.indexOf(words, at + 1);
        }
        return isFound;
    }

    Iterable<String> headings() {
        return texts.keySet();
    }

    /** The words under a heading that nobody quoted, each run of them between slashes. */
    String unquoted(String heading) {
        String text = texts.get(heading).toString();
        StringBuilder rest = new StringBuilder();
        for (int i = 0; i < text.length(); i++) {
            rest.append(quoted.get(heading).get(i) ? '/' : text.charAt(i));
        }
        // Between two quotes only signs that part them may stand.
        return rest.toString().replaceAll("[\\s.,;:()]+", " ").replaceAll("[/ ]*/[/ ]*", "/").replaceAll("^[/ ]+|[/ ]+$", "");
    }
}
