import java.util.ArrayList;
import java.util.List;

/**
 * A run of calls on a new object with the answers that are due, such as "appear(1, 0) = 0; offer(0) = 4".
 * An answer may be one of the document's constants, and "last 5 0 1 0 21" tells the latest signal. The model is
 * held to the same answers, and a call that answers an error is held to change nothing.
 */
final class Script {
    private static int wrong = 0;

    private final String title;
    private final Caller program = new Caller(new BlockBells());
    // Does the same calls, and between them those that tell its state: the program itself gets the script's calls alone.
    private final Caller watched = new Caller(new BlockBells());
    private final Caller model = new Caller(new Model());
    private int calls = 0;

    Script(String title) {
        this.title = title;
    }

    /** Makes a new object and runs the calls on it. */
    static Script run(String title, String calls) {
        return new Script(title).then(calls);
    }

    Script then(String calls) {
        for (String part : calls.split(";")) {
            String call = part.strip();
            if (call.startsWith("last ")) {
                last(call.substring(5));
            } else if (!call.isEmpty()) {
                runCall(call);
            }
        }
        return this;
    }

    /** Runs a line of a file: "write" with a text, "until" with a time, a number with "x" and calls, or calls. */
    void line(String line) {
        if (line.startsWith("write ")) {
            write(line.substring(6));
        } else if (line.startsWith("until ")) {
            until(Integer.parseInt(line.substring(6)));
        } else if (line.matches("[0-9]+ x .*")) {
            int space = line.indexOf(' ');
            times(Integer.parseInt(line.substring(0, space)), line.substring(space + 3));
        } else {
            then(line);
        }
    }

    /** The number of calls that the program got. */
    int calls() {
        return calls;
    }

    /** Puts a text on the pad, and holds it to be put there as long as the pad has room. */
    Script write(String text) {
        int length = model.call("count", 7);
        for (int i = 0; i < text.length(); i++) {
            runCall("say(" + (int) text.charAt(i) + ") = " + (length + i + 1));
        }
        return this;
    }

    /** Lets the time pass by thousands. */
    Script until(int time) {
        for (int now = model.call("count", 0) + 1000; now <= time; now += 1000) {
            runCall("pass(1000) = " + now);
        }
        return this;
    }

    /** That the latest signal has these properties: time, section, direction, box and code. */
    private void last(String properties) {
        String[] words = properties.split(" ");
        int signal = model.call("count", 4) - 1;
        for (int what = 0; what < 5; what++) {
            runCall("signal(" + signal + ", " + what + ") = " + words[what]);
        }
        runCall("count(4) = " + (signal + 1));
    }

    /** Does the same calls some times. */
    Script times(int times, String calls) {
        for (int i = 0; i < times; i++) {
            then(calls);
        }
        return this;
    }

    static void end() {
        System.out.println(wrong == 0 ? "all answers are as due" : wrong + " answers are not as due");
        if (wrong != 0) {
            System.exit(1);
        }
    }

    /** Makes the calls of a script on an object, which has to answer as the script tells. */
    static void prepare(Caller subject, String calls) {
        for (String part : calls.split(";")) {
            String call = part.strip();
            if (!call.isEmpty() && subject.call(name(call), arguments(call)) != due(call)) {
                throw new IllegalStateException(call + " is not what it answered");
            }
        }
    }

    private static String name(String call) {
        return call.substring(0, call.indexOf('('));
    }

    private static int[] arguments(String call) {
        return numbers(call.substring(call.indexOf('(') + 1, call.indexOf(')')));
    }

    private static int due(String call) {
        return number(call.substring(call.indexOf('=') + 1).strip());
    }

    private void runCall(String line) {
        String name = name(line);
        int[] numbers = arguments(line);
        int due = due(line);
        calls++;
        compare(line, program.call(name, numbers), due);
        compare(line + " (by the model)", model.call(name, numbers), due);
        watch(line, name, numbers, isError(due));
    }

    private void watch(String line, String name, int[] numbers, boolean hasToFail) {
        List<String> before = hasToFail ? watched.state() : new ArrayList<>();
        watched.call(name, numbers);
        if (hasToFail && !before.equals(watched.state())) {
            complain(line + " failed, but changed something");
        }
    }

    private static boolean isError(int answer) {
        return answer < 0 && answer != BlockBells.NONE;
    }

    private void compare(String call, int got, int due) {
        if (got != due) {
            complain(call + " answered " + got);
        }
    }

    private void complain(String text) {
        wrong++;
        System.out.println(title + ": " + text);
    }

    private static int[] numbers(String list) {
        if (list.isBlank()) {
            return new int[0];
        }
        String[] words = list.split(",");
        int[] numbers = new int[words.length];
        for (int i = 0; i < words.length; i++) {
            numbers[i] = number(words[i].strip());
        }
        return numbers;
    }

    private static int number(String word) {
        switch (word) {
            case "NO_SUCH": return -1;
            case "BAD_VALUE": return -2;
            case "BAD_TEXT": return -3;
            case "TOO_MANY": return -4;
            case "NOT_POSSIBLE": return -5;
            case "NONE": return -6;
            case "NORMAL": case "ON_LINE": case "no": return 0;
            case "CLEAR": case "IN_LOOP": case "yes": return 1;
            case "OCCUPIED": case "RUNNING": return 2;
            case "OBSTRUCTED": case "GONE": return 3;
            case "LEAST": return Integer.MIN_VALUE;
            case "MOST": return Integer.MAX_VALUE;
            default: return Integer.parseInt(word);
        }
    }
}
