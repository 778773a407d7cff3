import java.lang.reflect.InvocationTargetException;
import java.lang.reflect.Method;
import java.util.Arrays;
import java.util.Map;
import java.util.TreeMap;

/** A call by its name, with its arguments, so that it can be made of any house, and again. */
final class NamedCall {
    /** The methods of a house, by their names. */
    static final Map<String, Method> METHODS = methods();

    final String name;
    private final Object[] arguments;

    NamedCall(String name, Object... arguments) {
        this.name = name;
        this.arguments = arguments;
    }

    private static Map<String, Method> methods() {
        Map<String, Method> found = new TreeMap<>();
        for (Method method : House.class.getDeclaredMethods()) {
            found.put(method.getName(), method);
        }
        return found;
    }

    /** What the call answers, or throws.X of the exception X. */
    String answerOf(House house) {
        try {
            return String.valueOf(METHODS.get(name).invoke(house, arguments));
        } catch (InvocationTargetException e) {
            if (e.getCause() instanceof Error) {
                throw (Error) e.getCause();
            }
            return "throws." + e.getCause().getClass().getSimpleName();
        } catch (IllegalAccessException e) {
            throw new AssertionError(e);
        }
    }

    @Override
    public String toString() {
        return name + Arrays.toString(arguments);
    }
}
