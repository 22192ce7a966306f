import java.lang.reflect.InvocationTargetException;
import java.lang.reflect.Method;
import java.lang.reflect.Modifier;
import java.util.HashMap;
import java.util.List;
import java.util.Map;

/** An object with the face of the document, whose methods are called by their names. */
final class Target {
    /** What an object answers is promised for so many calls. */
    static final int MOST_CALLS = 512;

    private final Object on;
    private final Map<String, Method> face = new HashMap<>();
    private int calls;

    Target(Object on) {
        this.on = on;
        for (Method method : on.getClass().getDeclaredMethods()) {
            if (!Modifier.isPrivate(method.getModifiers())) {
                face.put(method.getName(), method);
            }
        }
    }

    int calls() {
        return calls;
    }

    boolean has(String name) {
        return face.containsKey(name);
    }

    /** The answer as a text: a number, or "throws " and the name of the exception. */
    String answer(String name, List<Object> arguments) {
        calls++;
        try {
            return String.valueOf(face.get(name).invoke(on, arguments.toArray()));
        } catch (InvocationTargetException thrown) {
            return "throws " + thrown.getCause().getClass().getSimpleName();
        } catch (IllegalAccessException hidden) {
            throw new IllegalStateException(name, hidden);
        }
    }

    String answer(String name) {
        return answer(name, List.of());
    }
}
