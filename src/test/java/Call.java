import java.lang.reflect.InvocationTargetException;
import java.lang.reflect.Method;
import java.util.List;
import java.util.Map;
import java.util.TreeMap;

/** A call, read once from its text, that can be made on any object. */
record Call(String text, Method method, Object[] values) {
    private static final Map<String, Method> METHODS = new TreeMap<>();

    static {
        for (Method method : BackIndex.class.getMethods()) {
            if (method.getDeclaringClass() == BackIndex.class) {
                METHODS.put(method.getName(), method);
            }
        }
    }

    /** The names of all calls, in the order of the alphabet. */
    static List<String> names() {
        return List.copyOf(METHODS.keySet());
    }

    static Class<?>[] types(String name) {
        return METHODS.get(name).getParameterTypes();
    }

    static Call of(String text) {
        int bracket = text.indexOf('(');
        Method method = METHODS.get(text.substring(0, bracket));
        String inner = text.substring(bracket + 1, text.lastIndexOf(')')).trim();
        String[] texts = inner.isEmpty() ? new String[0] : inner.split(" *, *");
        Class<?>[] types = method.getParameterTypes();
        Object[] values = new Object[types.length];
        if (texts.length != types.length) {
            throw new IllegalArgumentException(text);
        }
        for (int k = 0; k < types.length; k++) {
            values[k] = value(types[k], texts[k]);
        }
        return new Call(text, method, values);
    }

    private static Object value(Class<?> type, String text) {
        if (type == boolean.class) {
            return Boolean.valueOf(text);
        }
        if (type == long.class) {
            return Long.decode(text);
        }
        return switch (text) {
            case "NONE" -> -9;
            case "LEAST" -> Integer.MIN_VALUE;
            case "MOST" -> Integer.MAX_VALUE;
            default -> Integer.valueOf(text);
        };
    }

    int on(BackIndex object) {
        try {
            return (Integer) method.invoke(object, values);
        } catch (IllegalAccessException | InvocationTargetException e) {
            throw new IllegalStateException(text, e);
        }
    }
}
