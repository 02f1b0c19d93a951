import java.util.ArrayList;
import java.util.List;

/**
 * A run of calls on a new object with the answers that are due, such as "appear(1, 0) = 0; offer(0) = 4".
 * An answer may be one of the document's constants. The model is held to the same answers, and a call that
 * answers an error is held to change nothing.
 */
final class Script {
    private static int wrong = 0;

    private final String title;
    private final Caller program = new Caller(new BlockBells());
    private final Caller model = new Caller(new Model());

    Script(String title) {
        this.title = title;
    }

    /** Makes a new object and runs the calls on it. */
    static Script run(String title, String calls) {
        return new Script(title).then(calls);
    }

    Script then(String calls) {
        for (String call : calls.split(";")) {
            if (!call.isBlank()) {
                runCall(call.strip());
            }
        }
        return this;
    }

    /** Puts a text on the pad. */
    Script write(String text) {
        for (char sign : text.toCharArray()) {
            program.call("say", sign);
            model.call("say", sign);
        }
        return this;
    }

    /** Does the same calls some times. */
    Script times(int times, String calls) {
        for (int i = 0; i < times; i++) {
            then(calls);
        }
        return this;
    }

    static void end() {
        System.out.println(wrong == 0 ? "all answers are as due" : wrong + " answers are not as due");
        if (wrong != 0) {
            System.exit(1);
        }
    }

    private void runCall(String line) {
        int open = line.indexOf('(');
        int close = line.indexOf(')');
        String name = line.substring(0, open).strip();
        int[] numbers = numbers(line.substring(open + 1, close));
        int due = number(line.substring(line.indexOf('=', close) + 1).strip());
        List<String> before = isError(due) ? program.state() : new ArrayList<>();
        compare(line, program.call(name, numbers), due);
        compare(line + " (by the model)", model.call(name, numbers), due);
        if (isError(due) && !before.equals(program.state())) {
            complain(line + " failed, but changed something");
        }
    }

    private static boolean isError(int answer) {
        return answer < 0 && answer != BlockBells.NONE;
    }

    private void compare(String call, int got, int due) {
        if (got != due) {
            complain(call + " answered " + got);
        }
    }

    private void complain(String text) {
        wrong++;
        System.out.println(title + ": " + text);
    }

    private static int[] numbers(String list) {
        if (list.isBlank()) {
            return new int[0];
        }
        String[] words = list.split(",");
        int[] numbers = new int[words.length];
        for (int i = 0; i < words.length; i++) {
            numbers[i] = number(words[i].strip());
        }
        return numbers;
    }

    private static int number(String word) {
        switch (word) {
            case "NO_SUCH": return -1;
            case "BAD_VALUE": return -2;
            case "BAD_TEXT": return -3;
            case "TOO_MANY": return -4;
            case "NOT_POSSIBLE": return -5;
            case "NONE": return -6;
            case "NORMAL": case "ON_LINE": case "no": return 0;
            case "CLEAR": case "IN_LOOP": case "yes": return 1;
            case "OCCUPIED": case "RUNNING": return 2;
            case "OBSTRUCTED": case "GONE": return 3;
            case "LEAST": return Integer.MIN_VALUE;
            case "MOST": return Integer.MAX_VALUE;
            default: return Integer.parseInt(word);
        }
    }
}
