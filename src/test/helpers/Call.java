import java.lang.reflect.InvocationTargetException;
import java.lang.reflect.Method;
import java.util.Arrays;
import java.util.HashMap;
import java.util.Map;

/** A call of the face by its name, of the class or of the model: both bear the same names. */
public record Call(String name, int... numbers) {
    private static final Map<String, Method> METHODS = new HashMap<>();

    /** Reads a call as it is written: "put(0, 8)". */
    public static Call read(String text) {
        int open = text.indexOf('(');
        int close = text.indexOf(')');
        if (open < 1 || close != text.length() - 1) {
            throw new IllegalArgumentException("not a call: " + text);
        }
        String inside = text.substring(open + 1, close).trim();
        String[] parts = inside.isEmpty() ? new String[0] : inside.split(",");
        int[] numbers = new int[parts.length];
        for (int i = 0; i < parts.length; i++) {
            numbers[i] = Integer.parseInt(parts[i].trim());
        }
        return new Call(text.substring(0, open).trim(), numbers);
    }

    /** What the call answers of this object, true as 1; or the constant of Check for the exception that it throws. */
    public long answer(Object x) {
        return Check.answer(() -> made(x));
    }

    private long made(Object x) {
        Object[] arguments = new Object[numbers.length];
        for (int i = 0; i < numbers.length; i++) {
            arguments[i] = numbers[i];
        }
        try {
            Object answer = method(x.getClass()).invoke(x, arguments);
            return answer instanceof Boolean ? ((Boolean) answer ? 1 : 0) : (Integer) answer;
        } catch (InvocationTargetException e) {
            if (e.getCause() instanceof RuntimeException) {
                throw (RuntimeException) e.getCause();
            }
            throw new AssertionError(e);
        } catch (ReflectiveOperationException e) {
            throw new AssertionError(e);
        }
    }

    private Method method(Class<?> type) throws NoSuchMethodException {
        String key = type.getName() + " " + name + " " + numbers.length;
        Method method = METHODS.get(key);
        if (method == null) {
            Class<?>[] types = new Class<?>[numbers.length];
            Arrays.fill(types, int.class);
            method = type.getMethod(name, types);
            METHODS.put(key, method);
        }
        return method;
    }

    @Override
    public String toString() {
        String list = Arrays.toString(numbers);
        return name + "(" + list.substring(1, list.length() - 1) + ")";
    }
}
