import java.lang.reflect.Method;
import java.lang.reflect.Modifier;
import java.util.ArrayList;
import java.util.List;

/** The public methods of the class, as texts in one form. */
final class Face {
    private Face() {
    }

    static List<Method> methods() {
        List<Method> open = new ArrayList<>();
        for (Method m : PrefixRegistry.class.getDeclaredMethods()) {
            if (!Modifier.isPrivate(m.getModifiers()) && !m.isSynthetic()) {
                open.add(m);
            }
        }
        return open;
    }

    /** For example "int day(int) IllegalArgumentException UnsupportedOperationException". */
    static String textOf(Method m) {
        StringBuilder text = new StringBuilder(m.getReturnType().getSimpleName()).append(' ').append(m.getName());
        List<String> types = new ArrayList<>();
        for (Class<?> type : m.getParameterTypes()) {
            types.add(type.getSimpleName());
        }
        text.append('(').append(String.join(", ", types)).append(')');
        for (Class<?> thrown : m.getExceptionTypes()) {
            text.append(' ').append(thrown.getSimpleName());
        }
        return text.toString();
    }

    /** The same form of a line that declares a method. */
    static String textOf(String declared) {
        return declared.strip().replaceFirst("^public ", "").replaceFirst(";$", "")
            .replaceAll("\\b(int|boolean) \\w+([,)])", "$1$2").replace(" throws ", " ")
            .replace("Exception,", "Exception");
    }
}
