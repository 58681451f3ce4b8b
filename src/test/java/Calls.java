import java.lang.reflect.InvocationTargetException;
import java.lang.reflect.Method;
import java.lang.reflect.Modifier;
import java.util.Set;
import java.util.TreeSet;

/** Calls that are written as texts, such as "open(1, false)". */
final class Calls {
    private Calls() {
    }

    static Set<String> namesOfTheFace() {
        Set<String> names = new TreeSet<>();
        for (Method method : TransitRows.class.getDeclaredMethods()) {
            if (Modifier.isPublic(method.getModifiers())) {
                names.add(method.getName());
            }
        }
        return names;
    }

    static String nameOf(String call) {
        return call.substring(0, call.indexOf('('));
    }

    /** Makes the call: its answer as a text or, if it throws, the name of what it throws. */
    static String answerOf(TransitRows rows, String call) {
        String list = call.substring(call.indexOf('(') + 1, call.indexOf(')'));
        String[] texts = list.isEmpty() ? new String[0] : list.split(", ");
        for (Method method : TransitRows.class.getDeclaredMethods()) {
            if (method.getName().equals(nameOf(call)) && method.getParameterCount() == texts.length) {
                return answerOf(rows, method, texts);
            }
        }
        return "no such call";
    }

    private static String answerOf(TransitRows rows, Method method, String[] texts) {
        Object[] values = new Object[texts.length];
        for (int i = 0; i < texts.length; i++) {
            values[i] = valueOf(texts[i], method.getParameterTypes()[i]);
        }
        try {
            return method.invoke(rows, values).toString();
        } catch (InvocationTargetException thrown) {
            return thrown.getCause().getClass().getSimpleName();
        } catch (IllegalAccessException thrown) {
            return "no public call";
        }
    }

    private static Object valueOf(String text, Class<?> type) {
        if (type == boolean.class) {
            return Boolean.valueOf(text);
        }
        return Integer.valueOf(text);
    }
}
