import java.lang.reflect.InvocationTargetException;
import java.lang.reflect.Method;
import java.util.Arrays;
import java.util.HashMap;
import java.util.Map;

/** Calls of the class by their names. */
final class Calls {
    private static final Map<String, Method> METHODS = new HashMap<>();

    static {
        for (Method m : WindowViews.class.getMethods()) {
            if (m.getDeclaringClass() == WindowViews.class) {
                METHODS.put(m.getName(), m);
            }
        }
    }

    private Calls() {
    }

    static int arity(String name) {
        return METHODS.get(name).getParameterCount();
    }

    static int call(WindowViews x, String name, int... args) {
        Object[] boxed = Arrays.stream(args).boxed().toArray();
        try {
            return (Integer) METHODS.get(name).invoke(x, boxed);
        } catch (InvocationTargetException e) {
            throw new IllegalStateException(show(name, args) + " threw", e.getCause());
        } catch (IllegalAccessException e) {
            throw new IllegalStateException(e);
        }
    }

    static String show(String name, int... args) {
        String all = Arrays.toString(args);
        return name + "(" + all.substring(1, all.length() - 1) + ")";
    }
}
