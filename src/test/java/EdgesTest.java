import java.io.IOException;
import java.nio.file.Files;
import java.nio.file.Path;
import java.util.ArrayList;
import java.util.List;
import java.util.Set;
import java.util.stream.Stream;

/**
 * Runs the files of src/test/edges, in which each sentence of the document, or each part of it that tells a case of
 * its own, is quoted and followed by a script that fails if the sentence is broken. A word of the document that no
 * script quotes is a fault. README.md tells the form of the files.
 */
public final class EdgesTest {
    private static final Path DOCUMENT = Path.of("../shared/DOC.md");
    private static final Path EDGES = Path.of("src/test/edges");
    private static final Set<String> NOT_QUOTED = Set.of("## The public face", "## Not promised");
    private static final int MOST_CALLS = 512;

    private final Document document;
    private String heading = "";
    private String quote = "";
    private boolean hasScript = true;
    // The greatest time cannot be reached in 512 calls.
    private boolean isLong = false;
    private Script script;
    private int edges = 0;
    private int wrong = 0;

    private EdgesTest(Document document) {
        this.document = document;
    }

    public static void main(String[] args) throws IOException {
        EdgesTest test = new EdgesTest(new Document(DOCUMENT));
        for (Path file : files()) {
            for (String line : Files.readAllLines(file)) {
                test.read(line.strip());
            }
            test.endEdge();
        }
        test.checkQuotes();
        System.out.println(test.edges + " sentences and parts of sentences are tested");
        if (test.wrong > 0) {
            System.exit(1);
        }
        Script.end();
    }

    private static List<Path> files() throws IOException {
        try (Stream<Path> found = Files.list(EDGES)) {
            return new ArrayList<>(found.filter(file -> file.toString().endsWith(".txt")).sorted().toList());
        }
    }

    private void read(String line) {
        if (line.startsWith("## ")) {
            endEdge();
            heading = line;
        } else if (line.startsWith("> ")) {
            endEdge();
            startEdge(line.substring(2));
        } else if (line.startsWith("- ")) {
            hasScript = true;
        } else if (line.equals("new")) {
            endScript();
        } else if (line.equals("long")) {
            isLong = true;
        } else if (!line.isEmpty() && !line.startsWith("//")) {
            hasScript = true;
            currentScript().line(line);
        }
    }

    private Script currentScript() {
        if (script == null) {
            script = new Script(heading.substring(3) + ", \"" + quote + "\"");
        }
        return script;
    }

    private void startEdge(String words) {
        edges++;
        quote = words;
        hasScript = false;
        if (!document.quote(heading, words)) {
            complain("these words do not stand there");
        }
    }

    private void endEdge() {
        if (!hasScript) {
            complain("there is no script");
        }
        hasScript = true;
        endScript();
    }

    private void endScript() {
        if (script != null && script.calls() > MOST_CALLS && !isLong) {
            complain("the script makes more than 512 calls");
        }
        script = null;
        isLong = false;
    }

    private void checkQuotes() {
        for (String part : document.headings()) {
            String rest = document.unquoted(part);
            if (!NOT_QUOTED.contains(part) && !rest.isEmpty()) {
                heading = part;
                quote = rest;
                complain("no script quotes this");
            }
        }
    }

    private void complain(String text) {
        wrong++;
        System.out.println(heading + ", \"" + quote + "\": " + text);
    }
}
