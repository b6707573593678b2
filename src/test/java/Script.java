import java.lang.reflect.InvocationTargetException;
import java.lang.reflect.Method;
import java.util.HashMap;
import java.util.Map;

/**
 * Calls written as a text, on the class or on the model: "table 2; row 0 1 2 0; query SELECT 0.0 FROM
 * T0; read". Here query is clear() and a token() for each word.
 */
final class Script {
    private static final Map<String, Method> METHODS = new HashMap<>();

    private Script() {
    }

    /** What all calls answer, divided by commas. */
    static String run(Object engine, String text) {
        StringBuilder told = new StringBuilder();
        for (String call : text.split("; *")) {
            if (call.startsWith("query ")) {
                call(engine, "clear");
                for (int token : Make.tokens(call.substring(6))) {
                    told.append(call(engine, "token " + token)).append(", ");
                }
            } else if (!call.isEmpty()) {
                told.append(call).append(": ").append(call(engine, call)).append(", ");
            }
        }
        return told.toString();
    }

    /** What one call answers, or the exception that it throws. */
    static String call(Object engine, String text) {
        String[] words = text.trim().split(" ");
        Object[] numbers = new Object[words.length - 1];
        for (int i = 0; i < numbers.length; i++) {
            numbers[i] = Integer.valueOf(words[i + 1]);
        }
        try {
            return String.valueOf(method(engine, words[0], numbers.length).invoke(engine, numbers));
        } catch (InvocationTargetException e) {
            return "throws." + e.getCause().getClass().getSimpleName();
        } catch (IllegalAccessException e) {
            throw new AssertionError(e);
        }
    }

    private static Method method(Object engine, String name, int numbers) {
        String key = engine.getClass().getName() + " " + name + " " + numbers;
        Method known = METHODS.get(key);
        if (known != null) {
            return known;
        }
        for (Method method : engine.getClass().getDeclaredMethods()) {
            if (method.getName().equals(name) && method.getParameterCount() == numbers) {
                method.setAccessible(true);
                METHODS.put(key, method);
                return method;
            }
        }
        throw new AssertionError("no call " + name);
    }
}
