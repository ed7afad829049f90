import java.lang.reflect.InvocationTargetException;
import java.lang.reflect.Method;
import java.util.HashMap;
import java.util.Map;

/** A call of the face, that can be made on the class and on the model alike. */
public record Call(String name, Object... arguments) {
    private static final Map<String, Method> METHODS = new HashMap<>();

    static Call of(String name, Object... arguments) {
        return new Call(name, arguments);
    }

    private static Method method(Class<?> type, String name) {
        return METHODS.computeIfAbsent(type.getName() + "." + name, k -> {
            for (Method m : type.getMethods()) {
                if (m.getName().equals(name) && m.getDeclaringClass() == type) {
                    return m;
                }
            }
            throw new Error("no method " + name);
        });
    }

    /** The number that is answered, or throws. and the exact class of what is thrown. */
    String on(Object target) {
        try {
            return method(target.getClass(), name).invoke(target, arguments).toString();
        } catch (InvocationTargetException e) {
            return "throws." + e.getCause().getClass().getName().replaceAll(".*\\.", "");
        } catch (IllegalAccessException e) {
            throw new Error(e);
        }
    }

    @Override
    public String toString() {
        StringBuilder s = new StringBuilder(name).append('(');
        for (int i = 0; i < arguments.length; i++) {
            s.append(i > 0 ? ", " : "").append(arguments[i]);
        }
        return s.append(')').toString();
    }
}
