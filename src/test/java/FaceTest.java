import java.lang.reflect.Constructor;
import java.lang.reflect.Field;
import java.lang.reflect.Method;
import java.lang.reflect.Modifier;
import java.util.ArrayList;
import java.util.Arrays;
import java.util.Collections;
import java.util.List;

/** The public face, as the document's code block writes it, and nothing beside it. */
public final class FaceTest {
    private static final String INDEX = " throws IndexOutOfBoundsException";
    private static final String ARGUMENT = " throws IllegalArgumentException";
    private static final String BOTH = " throws IndexOutOfBoundsException, IllegalArgumentException";
    private static final String STATE = ", IllegalStateException";

    private static final String[] METHODS = {
        "int file(int)" + ARGUMENT + STATE,
        "int change(int, int)" + BOTH,
        "int party(int)" + ARGUMENT + STATE,
        "int budget(int, int)" + BOTH,
        "void right(int, int, int, int, int)" + BOTH,
        "int takeBack(int, int)" + INDEX,
        "void seal(int, int)" + BOTH,
        "int pass(int)" + ARGUMENT + STATE,
        "int ask(int, int, int)" + BOTH + STATE,
        "int cost(int, int, int)" + BOTH,
        "int answer(int, int)" + BOTH,
        "int spent(int)" + INDEX,
        "int spentAnew(int)" + INDEX,
        "int finds(int, int)" + INDEX,
        "int together(int, int)" + BOTH,
        "int rightTo(int, int)" + INDEX,
        "boolean isSealed(int)" + INDEX,
        "int count(int, int)" + BOTH,
    };

    private static final String[] CONSTANTS = {
        "NONE = -1", "NOTHING = 0", "ASK = 1", "READ = 2",
        "NO_RIGHT = -1", "SEALED = -2", "TELLS = -3", "DEAR = -4",
    };

    public static void main(String[] args) throws IllegalAccessException {
        int modifiers = Dataroom.class.getModifiers();
        Check.due("public final", Modifier.isPublic(modifiers) && Modifier.isFinal(modifiers), true);
        Check.due("constructors", constructors(), List.of("public ()"));
        Check.due("methods", methods(), sorted(METHODS));
        Check.due("constants", constants(), sorted(CONSTANTS));
        Check.end();
    }

    private static List<String> sorted(String[] texts) {
        List<String> list = new ArrayList<>(Arrays.asList(texts));
        Collections.sort(list);
        return list;
    }

    private static String names(Class<?>[] types) {
        List<String> names = new ArrayList<>();
        for (Class<?> type : types) {
            names.add(type.getSimpleName());
        }
        return String.join(", ", names);
    }

    private static List<String> constructors() {
        List<String> found = new ArrayList<>();
        for (Constructor<?> one : Dataroom.class.getDeclaredConstructors()) {
            found.add(Modifier.toString(one.getModifiers()) + " (" + names(one.getParameterTypes()) + ")");
        }
        return found;
    }

    private static List<String> methods() {
        List<String> found = new ArrayList<>();
        for (Method one : Dataroom.class.getDeclaredMethods()) {
            int modifiers = one.getModifiers();
            if (Modifier.isPrivate(modifiers) || one.isSynthetic()) {
                continue;
            }
            String kind = modifiers == Modifier.PUBLIC ? "" : Modifier.toString(modifiers) + " ";
            String clause = one.getExceptionTypes().length == 0 ? "" : " throws " + names(one.getExceptionTypes());
            found.add(kind + one.getReturnType().getSimpleName() + " " + one.getName()
                    + "(" + names(one.getParameterTypes()) + ")" + clause);
        }
        Collections.sort(found);
        return found;
    }

    private static List<String> constants() throws IllegalAccessException {
        List<String> found = new ArrayList<>();
        for (Field one : Dataroom.class.getDeclaredFields()) {
            int modifiers = one.getModifiers();
            if (Modifier.isPrivate(modifiers)) {
                continue;
            }
            boolean constant = modifiers == (Modifier.PUBLIC | Modifier.STATIC | Modifier.FINAL);
            found.add(one.getName() + " = " + (constant ? one.getInt(null) : "no constant"));
        }
        Collections.sort(found);
        return found;
    }
}
