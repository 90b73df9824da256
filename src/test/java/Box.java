import java.lang.reflect.InvocationTargetException;
import java.lang.reflect.Method;
import java.lang.reflect.Modifier;
import java.util.HashMap;
import java.util.Map;

/** A PressBox that takes told calls, and counts them: behind the 512th the document promises nothing. */
final class Box {
    private static final int CALLS = 512;
    private static final Map<String, Method> FACE = face();

    private final PressBox box = new PressBox();
    private int calls;

    private static Map<String, Method> face() {
        Map<String, Method> face = new HashMap<>();
        for (Method method : PressBox.class.getDeclaredMethods()) {
            if (Modifier.isPublic(method.getModifiers())) {
                face.put(method.getName(), method);
            }
        }
        return face;
    }

    int calls() {
        return calls;
    }

    /** What a call answers: a boolean counts 1 or 0, a call without an answer 0; throws what the call throws. */
    long take(Told told) {
        calls++;
        if (calls > CALLS) {
            throw new AssertionError(told + " is a call behind the " + CALLS + "th");
        }
        Method method = FACE.get(told.name);
        Object answer;
        try {
            answer = method.invoke(box, arguments(method, told.arguments));
        } catch (InvocationTargetException e) {
            throw (RuntimeException) e.getCause();
        } catch (IllegalAccessException e) {
            throw new AssertionError(told.name, e);
        }
        if (answer instanceof Boolean) {
            return (Boolean) answer ? 1 : 0;
        }
        return answer == null ? 0 : (Integer) answer;
    }

    private static Object[] arguments(Method method, long[] numbers) {
        Class<?>[] types = method.getParameterTypes();
        Object[] arguments = new Object[types.length];
        for (int i = 0; i < types.length; i++) {
            if (types[i] == long.class) {
                arguments[i] = numbers[i];
            } else if (types[i] == boolean.class) {
                arguments[i] = numbers[i] != 0;
            } else {
                arguments[i] = Math.toIntExact(numbers[i]);
            }
        }
        return arguments;
    }
}
