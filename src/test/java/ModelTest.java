import java.util.Arrays;
import java.util.List;

/** Long random runs, in which program and model have to answer alike and to be in the same state. */
public final class ModelTest extends RandomRun {
    private static final int RUNS = 400;

    private final Caller model = new Caller(new Model());

    private ModelTest(int seed) {
        super(seed);
    }

    public static void main(String[] args) {
        for (int seed = 0; seed < RUNS; seed++) {
            new ModelTest(seed).run(seed);
        }
        System.out.println("the program answers as the model");
    }

    @Override
    void call(String name, int... numbers) {
        int got = program.call(name, numbers);
        int due = model.call(name, numbers);
        if (got != due) {
            complain(name + Arrays.toString(numbers) + " answered " + got + ", due is " + due);
        }
    }

    @Override
    void look() {
        List<String> got = program.state();
        List<String> due = model.state();
        if (!got.equals(due)) {
            got.removeAll(due);
            complain("the state is wrong: " + got);
        }
    }
}
