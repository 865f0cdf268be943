import java.lang.reflect.Constructor;
import java.lang.reflect.Field;
import java.lang.reflect.Method;
import java.lang.reflect.Modifier;
import java.util.Set;
import java.util.TreeSet;

/** The class has the public face of the document, and nothing else that can be seen from outside. */
public final class FaceTest {
    private static final Set<String> FACE = Set.of(
            "OK = 0", "FAILED = 1", "FUEL = 2", "INCOMPLETE = 3",
            "CoroutineScript[int, int]",
            "boolean open[int, int, int]", "boolean num[int]", "boolean name[int]", "boolean close[]",
            "void drop[]", "int run[]", "int kind[]", "int value[]", "int error[]", "int place[]",
            "int beats[]", "int printed[]", "long output[int]", "int made[int]");

    public static void main(String[] args) throws IllegalAccessException {
        Due due = new Due();
        Set<String> seen = new TreeSet<>();
        for (Field field : CoroutineScript.class.getDeclaredFields()) {
            if (isOpen(field.getModifiers(), Modifier.PUBLIC | Modifier.STATIC | Modifier.FINAL)) {
                seen.add(field.getName() + " = " + field.getInt(null));
            }
        }
        for (Constructor<?> made : CoroutineScript.class.getDeclaredConstructors()) {
            seen.add("CoroutineScript" + java.util.Arrays.toString(made.getParameterTypes()));
        }
        for (Method method : CoroutineScript.class.getDeclaredMethods()) {
            if (isOpen(method.getModifiers(), Modifier.PUBLIC)) {
                seen.add(method.getReturnType() + " " + method.getName()
                        + java.util.Arrays.toString(method.getParameterTypes()));
            }
        }
        due.is("the members seen, " + seen + ", are those of the document: that", seen.equals(FACE), true);
        int kind = CoroutineScript.class.getModifiers();
        due.is("public final class: that", kind, Modifier.PUBLIC | Modifier.FINAL);
        due.end();
    }

    private static boolean isOpen(int modifiers, int wanted) {
        if (Modifier.isPrivate(modifiers)) {
            return false;
        }
        if (modifiers != wanted) {
            throw new IllegalStateException("a member that is neither private nor one of the face");
        }
        return true;
    }
}
