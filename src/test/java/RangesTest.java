import java.lang.reflect.Method;
import java.lang.reflect.Modifier;
import java.util.Arrays;

/**
 * Every method with every choice of numbers at and beyond the edges of the document's ranges, on lines in several
 * states: program and model have to answer alike, and a call that fails has to leave all counts as they were.
 * An object gets far more than 512 calls here, so that later calls are held not to throw either.
 */
public final class RangesTest {
    private static final int LEAST = Integer.MIN_VALUE;
    private static final int MOST = Integer.MAX_VALUE;
    private static final int[] MANY = {LEAST, LEAST + 1, -61, -11, -10, -7, -6, -2, -1, 0, 1, 2, 3, 4, 5, 6, 7, 8, 9, 10, 11,
        12, 13, 16, 30, 31, 32, 33, 34, 59, 60, 61, 99, 100, 126, 127, 300, 301, 500, 501, 1000, 1001, 65536, MOST - 1, MOST};
    private static final int[] FEW = {LEAST, -1, 0, 1, 2, 3, 4, 5, 6, 7, 40, 300, 301, MOST};
    private static final String BUSY = "appear(1, 0) = 0; shunt(0) = IN_LOOP; appear(2, 0) = 1; appear(3, 1) = 2; offer(1) = 31;"
        + "answer(0, 0, yes) = 31; depart(1) = 6; divide(1) = 0; offer(2) = 5;";
    private static final String[] STATES = {
        "",
        "setUp(2, 1) = 0; appear(5, 1) = 0; offer(0) = 41; answer(0, 1, yes) = 41",
        "setUp(4, 1) = 0;" + BUSY + "obstruct(1, 0) = 0; pass(6) = 6; admit(0, 0) = 1; assist(0, 0) = 10; pass(3) = 9",
        "setUp(6, 17) = 0;" + BUSY + "answer(4, 1, yes) = 5; moveTokens(0, -5) = 9; pass(9) = 9; work(12) = 0",
    };

    private final Caller program = new Caller(new BlockBells());
    private final Caller model = new Caller(new Model());
    private int calls = 0;
    private int wrong = 0;

    public static void main(String[] args) {
        int calls = 0;
        for (String state : STATES) {
            RangesTest test = new RangesTest();
            test.prepare(state);
            test.callAll();
            calls += test.calls;
            if (test.wrong > 0) {
                System.out.println(test.wrong + " answers are wrong after: " + state);
                System.exit(1);
            }
        }
        System.out.println(calls + " calls at the edges of the ranges are answered as the model does");
        if (calls == 0) {
            System.exit(1);
        }
    }

    /** Slot 1 keeps the state, so that each call starts from it. */
    private void prepare(String state) {
        Script.prepare(program, state);
        Script.prepare(model, state);
        program.call("save", 1);
        model.call("save", 1);
    }

    private void callAll() {
        for (Method method : BlockBells.class.getDeclaredMethods()) {
            int parameters = method.getParameterCount();
            if (Modifier.isPublic(method.getModifiers())) {
                choose(method.getName(), new int[parameters], 0, parameters > 2 ? FEW : MANY);
            }
        }
    }

    private void choose(String name, int[] numbers, int chosen, int[] choices) {
        if (chosen == numbers.length) {
            check(name, numbers);
            return;
        }
        for (int choice : choices) {
            numbers[chosen] = choice;
            choose(name, numbers, chosen + 1, choices);
        }
    }

    private void check(String name, int[] numbers) {
        int[] before = counts(program);
        int got = program.call(name, numbers);
        int due = model.call(name, numbers);
        int[] after = counts(program);
        boolean isFailure = due < 0 && due != BlockBells.NONE;
        if (got != due || !Arrays.equals(after, counts(model)) || isFailure && !Arrays.equals(before, after)) {
            wrong++;
            System.out.println(name + Arrays.toString(numbers) + " answered " + got + ", due is " + due + "; the counts were "
                + Arrays.toString(before) + " and are " + Arrays.toString(after));
        }
        calls++;
        reset(program);
        reset(model);
    }

    private static int[] counts(Caller caller) {
        int[] counts = new int[10];
        for (int what = 0; what < 10; what++) {
            counts[what] = caller.call("count", what);
        }
        return counts;
    }

    private static void reset(Caller caller) {
        caller.call("restore", 1);
        caller.call("wipe");
    }
}
