import java.io.IOException;
import java.lang.reflect.Array;
import java.lang.reflect.Constructor;
import java.lang.reflect.Field;
import java.lang.reflect.Method;
import java.lang.reflect.Modifier;
import java.nio.file.Files;
import java.nio.file.Path;
import java.util.ArrayList;
import java.util.IdentityHashMap;
import java.util.List;
import java.util.Map;
import java.util.Set;
import java.util.TreeSet;
import java.util.regex.Matcher;
import java.util.regex.Pattern;

/** The rules of LANGUAGE.md that can be seen without a reader: the face, and words that may not stand in the source. */
public final class LanguageTest {
    private static final String FACE = "setUp(int,int) setTime(int,int) setLoops(int,int,int) moveTokens(int,int) "
        + "section(int,int) block(int,int,int) appear(int,int) train(int,int) shunt(int) leave(int) divide(int) offer(int) "
        + "answer(int,int,boolean) cancel(int,int) depart(int) admit(int,int) out(int,int) assist(int,int) "
        + "obstruct(int,int) lift(int,int) pass(int) signal(int,int) rung(int,int) work(int) forecast(int,int) "
        + "capacity(int,int,int) say(int) wipe() fault() carryOut() count(int) save(int) restore(int)";
    private static final String CONSTANTS = "NO_SUCH=-1 BAD_VALUE=-2 BAD_TEXT=-3 TOO_MANY=-4 NOT_POSSIBLE=-5 NONE=-6 "
        + "NORMAL=0 CLEAR=1 OCCUPIED=2 OBSTRUCTED=3 ON_LINE=0 IN_LOOP=1 RUNNING=2 GONE=3";
    private static final Pattern FORBIDDEN = Pattern.compile("\\b(throw|throws|try|catch|synchronized|assert|import|package"
        + "|yield|System\\.out|new Object|Object|hashCode|toString|volatile|transient|native|double|float)\\b|->|::|\"");

    private static final Pattern LIBRARY = Pattern.compile("\\b([A-Z][a-z]\\w*)\\.(\\w+)");
    private static final Set<String> USED = Set.of("Math.max", "System.arraycopy");
    private static final Pattern METHOD = Pattern.compile(" {4,8}[a-zA-Z][\\w\\[\\] ]*\\(.*\\) \\{");
    private static final Pattern CONSTRUCTOR = Pattern.compile(" {4,8}(public )?[A-Z]\\w*\\(.*\\) \\{");
    private static final int LONGEST_METHOD = 60;
    // A run makes many objects of the class, and all of them live in one room.
    private static final int MOST_OBJECTS = 200;
    private static final int MOST_FIELDS = 3000;

    private static int wrong = 0;

    public static void main(String[] args) throws IOException, IllegalAccessException {
        face();
        nestedClasses();
        List<String> lines = Files.readAllLines(Path.of("src/main/java/BlockBells.java"));
        source(lines);
        methods(lines);
        room();
        System.out.println(wrong == 0 ? "the language is kept" : wrong + " rules are broken");
        if (wrong != 0) {
            System.exit(1);
        }
    }

    private static void check(boolean isRight, String complaint) {
        if (!isRight) {
            wrong++;
            System.out.println(complaint);
        }
    }

    private static void face() throws IllegalAccessException {
        check(Modifier.isFinal(BlockBells.class.getModifiers()), "the class is not final");
        Set<String> methods = new TreeSet<>();
        Set<String> constants = new TreeSet<>();
        for (Method method : BlockBells.class.getDeclaredMethods()) {
            if (!Modifier.isPrivate(method.getModifiers())) {
                check(method.getReturnType() == int.class, method + " does not return an int");
                methods.add(method.getName() + parameters(method));
            } else {
                check(!names().contains(method.getName()), method + " bears a name of the face");
            }
        }
        for (Field field : BlockBells.class.getDeclaredFields()) {
            check(!Modifier.isStatic(field.getModifiers()) || Modifier.isFinal(field.getModifiers()), field + " is static");
            if (!Modifier.isPrivate(field.getModifiers())) {
                constants.add(field.getName() + "=" + field.getInt(null));
            }
        }
        check(methods.equals(Set.of(FACE.split(" "))), "the methods are " + methods);
        check(constants.equals(Set.of(CONSTANTS.split(" "))), "the constants are " + constants);
        Constructor<?>[] constructors = BlockBells.class.getDeclaredConstructors();
        check(constructors.length == 1 && constructors[0].getParameterCount() == 0, "the constructors are wrong");
    }

    private static String parameters(Method method) {
        List<String> names = new ArrayList<>();
        for (Class<?> type : method.getParameterTypes()) {
            names.add(type.getName());
        }
        return "(" + String.join(",", names) + ")";
    }

    private static Set<String> names() {
        Set<String> names = new TreeSet<>();
        for (String method : FACE.split(" ")) {
            names.add(method.substring(0, method.indexOf('(')));
        }
        return names;
    }

    private static void nestedClasses() {
        Set<String> face = names();
        Class<?>[] classes = BlockBells.class.getDeclaredClasses();
        check(classes.length < 12, "there are too many classes");
        for (Class<?> nested : classes) {
            check(Modifier.isStatic(nested.getModifiers()), nested + " is not static");
            check(nested.getDeclaredFields().length <= 20, nested + " has too many fields");
            for (Method method : nested.getDeclaredMethods()) {
                check(!face.contains(method.getName()), method + " bears a name of the face");
                check(method.getParameterCount() <= 7, method + " has too many parameters");
            }
            for (Field field : nested.getDeclaredFields()) {
                check(!Modifier.isStatic(field.getModifiers()) || Modifier.isFinal(field.getModifiers()), field + " is static");
            }
        }
    }

    private static void source(List<String> lines) {
        for (int i = 0; i < lines.size(); i++) {
            String code = lines.get(i).replaceFirst("//.*", "").replaceFirst("^\\s*/?\\*.*", "");
            check(!FORBIDDEN.matcher(code).find(), "line " + (i + 1) + " is outside of the language: " + code);
            Matcher call = LIBRARY.matcher(code);
            while (call.find()) {
                boolean isOwn = call.group(1).equals("Block");
                check(isOwn || USED.contains(call.group()), "line " + (i + 1) + " uses " + call.group());
            }
        }
    }

    /** Methods stay short, and only constructors make objects, so that no later call fills the room. */
    private static void methods(List<String> lines) {
        int start = -1;
        boolean mayMake = false;
        for (int i = 0; i < lines.size(); i++) {
            String line = lines.get(i);
            if (start < 0 && METHOD.matcher(line).matches()) {
                start = i;
                mayMake = CONSTRUCTOR.matcher(line).matches();
            }
            boolean makes = start >= 0 && line.matches(".*\\bnew [A-Za-z].*") && !line.strip().startsWith("/");
            check(!makes || mayMake, "line " + (i + 1) + " makes an object outside of a constructor");
            if (start >= 0 && line.matches(" {" + indent(lines.get(start)) + "}\\}")) {
                check(i - start < LONGEST_METHOD, "the method of line " + (start + 1) + " is too long");
                start = -1;
            }
        }
    }

    private static int indent(String line) {
        return line.length() - line.stripLeading().length();
    }

    private static void room() throws IllegalAccessException {
        Map<Object, Boolean> found = new IdentityHashMap<>();
        int fields = fieldsOf(new BlockBells(), found);
        System.out.println("a line is " + found.size() + " objects with " + fields + " fields and elements");
        check(found.size() <= MOST_OBJECTS, "a line is too many objects");
        check(fields <= MOST_FIELDS, "a line has too many fields and elements");
    }

    /** The fields and elements of an object and of all that it leads to. */
    private static int fieldsOf(Object object, Map<Object, Boolean> found) throws IllegalAccessException {
        if (object == null || found.put(object, true) != null) {
            return 0;
        }
        Class<?> type = object.getClass();
        int fields = 0;
        if (type.isArray()) {
            int length = Array.getLength(object);
            fields = length;
            for (int i = 0; i < length && !type.getComponentType().isPrimitive(); i++) {
                fields += fieldsOf(Array.get(object, i), found);
            }
            return fields;
        }
        for (Field field : type.getDeclaredFields()) {
            if (!Modifier.isStatic(field.getModifiers())) {
                field.setAccessible(true);
                fields++;
                fields += field.getType().isPrimitive() ? 0 : fieldsOf(field.get(object), found);
            }
        }
        return fields;
    }
}
