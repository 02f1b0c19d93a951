import java.io.IOException;
import java.nio.file.Files;
import java.nio.file.Path;
import java.util.regex.Matcher;
import java.util.regex.Pattern;

/** That the example of README.md answers what is written behind each call. */
public final class ReadmeTest {
    private static final Pattern CALL = Pattern.compile("line\\.(\\w+)\\((.*)\\); +// (-?\\w+)\\b.*");

    public static void main(String[] args) throws IOException {
        Script script = new Script("README.md");
        boolean isExample = false;
        for (String line : Files.readAllLines(Path.of("README.md"))) {
            if (line.startsWith("```")) {
                isExample = line.equals("```java");
            } else if (isExample && line.startsWith("line.")) {
                script.then(call(line));
            }
        }
        if (script.calls() == 0) {
            throw new IllegalStateException("there is no example");
        }
        Script.end();
    }

    /** The line as scripts have it: a character is told by its code, and an answer by yes and no. */
    private static String call(String line) {
        Matcher parts = CALL.matcher(line);
        if (!parts.matches()) {
            throw new IllegalStateException("no answer is told: " + line);
        }
        String arguments = parts.group(2).replace("true", "yes").replace("false", "no");
        if (arguments.startsWith("'")) {
            arguments = Integer.toString(arguments.charAt(1));
        }
        return parts.group(1) + "(" + arguments + ") = " + parts.group(3);
    }
}
