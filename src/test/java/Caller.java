import java.lang.reflect.InvocationTargetException;
import java.lang.reflect.Method;
import java.util.ArrayList;
import java.util.Arrays;
import java.util.HashMap;
import java.util.List;
import java.util.Map;

/** Calls the methods of the document's face by their names, on the program or on the model. */
final class Caller {
    private final Object subject;
    private final Map<String, Method> methods = new HashMap<>();

    Caller(Object subject) {
        this.subject = subject;
        for (Method method : subject.getClass().getDeclaredMethods()) {
            method.setAccessible(true);
            methods.put(method.getName(), method);
        }
    }

    /** A boolean parameter is true for every number but 0. */
    int call(String name, int... numbers) {
        Method method = methods.get(name);
        if (method == null || method.getParameterCount() != numbers.length) {
            throw new IllegalArgumentException("no method " + name + " with " + numbers.length + " parameters");
        }
        Object[] values = new Object[numbers.length];
        for (int i = 0; i < numbers.length; i++) {
            boolean isTruth = method.getParameterTypes()[i] == boolean.class;
            values[i] = isTruth ? (Object) (numbers[i] != 0) : (Object) numbers[i];
        }
        try {
            return (Integer) method.invoke(subject, values);
        } catch (InvocationTargetException | IllegalAccessException e) {
            throw new IllegalStateException(name + Arrays.toString(numbers) + " threw " + e.getCause(), e);
        }
    }

    /** Everything that the face tells of the state, in words that name what they tell. */
    List<String> state() {
        List<String> all = new ArrayList<>();
        for (int s = 0; s < 5; s++) {
            for (int what = 0; what < 5; what++) {
                note(all, "section", s, what);
                note(all, "block", s, 0, what);
                note(all, "block", s, 1, what);
            }
        }
        for (int box = 0; box < call("count", 6); box++) {
            noteLoops(all, box, 0);
            noteLoops(all, box, 1);
        }
        for (int train = 0; train < 12; train++) {
            for (int what = 0; what < 8; what++) {
                note(all, "train", train, what);
            }
        }
        int signals = call("count", 4);
        for (int signal = Math.max(0, signals - 61); signal <= signals; signal++) {
            for (int what = 0; what < 5; what++) {
                note(all, "signal", signal, what);
            }
        }
        for (int what = 0; what < 10; what++) {
            note(all, "count", what);
        }
        note(all, "fault");
        return all;
    }

    /** The face tells the number of loops only when it is changed, so it is changed and set back. */
    private void noteLoops(List<String> all, int box, int direction) {
        int loops = call("setLoops", box, direction, 3);
        call("setLoops", box, direction, loops);
        all.add("loops[" + box + ", " + direction + "]=" + loops);
    }

    private void note(List<String> all, String name, int... numbers) {
        all.add(name + Arrays.toString(numbers) + "=" + call(name, numbers));
    }
}
