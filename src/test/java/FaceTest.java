import java.lang.reflect.Constructor;
import java.lang.reflect.Field;
import java.lang.reflect.Method;
import java.lang.reflect.Modifier;
import java.util.Arrays;
import java.util.Set;
import java.util.TreeSet;

/** The class shows the document's face and nothing else. */
public final class FaceTest {
    private static final String[] FACE = {
        "boolean floats(int, boolean)",
        "boolean open(int, boolean)",
        "boolean priority(int, boolean)",
        "boolean skip(int, int, boolean)",
        "int arrive(int, int, int)",
        "int back(int)",
        "int bin(int, int, int)",
        "int copy(int)",
        "int load(int, int)",
        "int loaded(int, int)",
        "int lost(int)",
        "int missing(int, int)",
        "int place()",
        "int route(int, int, int, int, int)",
        "int send(int, int, int)",
        "int slip(int, int)",
        "int statistics(int, int, int) throws java.lang.ArithmeticException",
        "int told(int, int)",
        "int where(int, int)",
        "TransitRows()",
        "NONE = -1",
        "CLOSED = -2",
        "NO_ROUTE = -3",
    };

    public static void main(String[] args) throws IllegalAccessException {
        Check check = new Check();
        Set<String> shown = new TreeSet<>();
        for (Method method : TransitRows.class.getDeclaredMethods()) {
            if (!Modifier.isPrivate(method.getModifiers())) {
                shown.add(method.toGenericString().replace("public ", "").replace("TransitRows.", "").replace(",", ", "));
            }
        }
        for (Constructor<?> constructor : TransitRows.class.getDeclaredConstructors()) {
            shown.add(constructor.toGenericString().replace("public ", ""));
        }
        for (Field field : TransitRows.class.getDeclaredFields()) {
            if (!Modifier.isPrivate(field.getModifiers())) {
                check.due(field.getName() + " is public, static and final", field.getModifiers(),
                    Modifier.PUBLIC | Modifier.STATIC | Modifier.FINAL);
                shown.add(field.getName() + " = " + field.getInt(null));
            }
        }
        check.dueText("the face", shown.toString(), new TreeSet<>(Arrays.asList(FACE)).toString());
        check.due("the class is public and final", TransitRows.class.getModifiers(), Modifier.PUBLIC | Modifier.FINAL);
        check.end();
    }
}
