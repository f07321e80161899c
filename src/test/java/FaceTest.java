import java.lang.reflect.Constructor;
import java.lang.reflect.Field;
import java.lang.reflect.Method;
import java.lang.reflect.Modifier;
import java.util.Arrays;
import java.util.Map;
import java.util.Set;
import java.util.TreeMap;
import java.util.TreeSet;
import java.util.stream.Collectors;

/** The face: every constant, the constructor, every method with its throws clause, and nothing beside. */
public final class FaceTest {
    private static final String CONSTANTS = "NONE=-1 GROUP=0 TEXT=1 BUTTON=2 CHECK=3 EDIT=4 TABLE=5 ROW=6 LIVE=7 "
            + "LESS=0 PLAIN=1 MORE=2 QUIET=0 POLITE=1 LOUD=2 NEWS=0 ANSWER=1 ALERT=2";
    private static final String[] METHODS = {
        "int draft(int) A S", "int add(int,int,int) I A S", "int remove(int) I S", "boolean hide(int,boolean) I S",
        "int rename(int) I S", "boolean set(int,boolean) I S", "int setRule(int,int) I A",
        "int setManner(int,int) I A S", "int elements()", "int kind(int) I", "int parent(int) I", "int children(int) I",
        "int childAt(int,int) I", "int nameLength(int) I", "int nameAt(int,int) I", "int contentLength(int) I",
        "int contentAt(int,int) I", "boolean isOn(int) I", "int presses(int) I", "boolean isShown(int) I",
        "int level(int) I", "int reading()", "int readingAt(int) I", "int press(int) I S", "int release(int) I S",
        "int chord(int) A S", "int cursor()", "int focus()", "boolean isTyping()", "int offset()", "int lineLength()",
        "int pin(int) I", "int pinAnew(int) I", "int wordsLength(int) I S", "int wordsAt(int,int) S I",
        "int tick(int) A", "int time()", "int speaking()", "int left()", "int waiting(int) A", "int heard()",
        "int heardAt(int) I", "int dropped()", "int swallowed()"
    };

    public static void main(String[] args) throws IllegalAccessException {
        Checks checks = new Checks("FaceTest");
        Class<?> face = BrailleDesk.class;
        checks.same("the class", Modifier.PUBLIC | Modifier.FINAL, face.getModifiers());
        checks.same("constants", new TreeSet<>(Arrays.asList(CONSTANTS.split(" "))), constants(face));
        checks.same("methods", new TreeSet<>(Arrays.asList(METHODS)), methods(face));
        Constructor<?>[] constructors = face.getDeclaredConstructors();
        checks.same("constructors", 1, constructors.length);
        checks.same("the constructor", "public BrailleDesk()", constructors[0].toString());
        checks.same("private methods by public names", Set.of(), doubles(face));
        for (Class<?> inside : face.getDeclaredClasses()) {
            int modifiers = inside.getModifiers();
            checks.same(inside + " is static", true, Modifier.isStatic(modifiers));
            checks.same(inside + " is hidden", false, Modifier.isPublic(modifiers) || Modifier.isProtected(modifiers));
        }
        checks.finish();
    }

    private static Set<String> constants(Class<?> face) throws IllegalAccessException {
        Set<String> found = new TreeSet<>();
        for (Field field : face.getDeclaredFields()) {
            if (Modifier.isPrivate(field.getModifiers())) {
                continue;
            }
            boolean isConstant = field.getModifiers() == (Modifier.PUBLIC | Modifier.STATIC | Modifier.FINAL)
                    && field.getType() == int.class;
            found.add(isConstant ? field.getName() + "=" + field.getInt(null) : field.toString());
        }
        return found;
    }

    private static Set<String> methods(Class<?> face) {
        Map<Class<?>, String> letters = Map.of(IndexOutOfBoundsException.class, " I",
                IllegalArgumentException.class, " A", IllegalStateException.class, " S");
        Set<String> found = new TreeSet<>();
        for (Method method : face.getDeclaredMethods()) {
            if (Modifier.isPrivate(method.getModifiers())) {
                continue;
            }
            String arguments = Arrays.stream(method.getParameterTypes()).map(Class::getSimpleName)
                    .collect(Collectors.joining(","));
            StringBuilder text = new StringBuilder(method.getModifiers() == Modifier.PUBLIC ? "" : "not public ");
            text.append(method.getReturnType()).append(' ').append(method.getName());
            text.append('(').append(arguments).append(')');
            for (Class<?> thrown : method.getExceptionTypes()) {
                text.append(letters.getOrDefault(thrown, " " + thrown));
            }
            found.add(text.toString());
        }
        return found;
    }

    private static Set<String> doubles(Class<?> face) {
        Map<String, Integer> counts = new TreeMap<>();
        for (Method method : face.getDeclaredMethods()) {
            counts.merge(method.getName(), 1, Integer::sum);
        }
        Set<String> publicNames = new TreeSet<>();
        for (Method method : face.getMethods()) {
            publicNames.add(method.getName());
        }
        counts.keySet().retainAll(publicNames);
        counts.values().removeIf(count -> count == 1);
        return counts.keySet();
    }
}
