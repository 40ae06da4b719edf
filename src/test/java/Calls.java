import java.lang.reflect.InvocationTargetException;
import java.lang.reflect.Method;
import java.util.HashMap;
import java.util.Map;

/** Calls by their names, on a RunPictures or on another object that has methods of these names. */
final class Calls {
    private static final Map<String, Method> METHODS = new HashMap<>();

    private Calls() {
    }

    static int arguments(String name) {
        return methodOf(RunPictures.class, name).getParameterCount();
    }

    /** The answer, a boolean counting 1 or 0; a call that throws is told as a fault. */
    static long answer(Object target, String name, int... numbers) {
        Object[] arguments = new Object[numbers.length];
        for (int i = 0; i < numbers.length; i++) {
            arguments[i] = numbers[i];
        }
        try {
            Object answer = methodOf(target.getClass(), name).invoke(target, arguments);
            return answer instanceof Boolean yes ? (yes ? 1 : 0) : (Integer) answer;
        } catch (InvocationTargetException thrown) {
            Check.holds(name + " throws nothing, but threw " + thrown.getCause(), false);
        } catch (IllegalAccessException hidden) {
            Check.holds(name + " can be called", false);
        }
        return Long.MIN_VALUE;
    }

    private static Method methodOf(Class<?> type, String name) {
        return METHODS.computeIfAbsent(type.getName() + "." + name, key -> find(type, name));
    }

    private static Method find(Class<?> type, String name) {
        for (Method method : type.getDeclaredMethods()) {
            if (method.getName().equals(name)) {
                return method;
            }
        }
        throw new IllegalArgumentException("no method " + name);
    }
}
