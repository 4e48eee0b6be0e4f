import java.lang.reflect.InvocationTargetException;
import java.lang.reflect.Method;
import java.lang.reflect.Modifier;
import java.util.HashMap;
import java.util.Map;

/** Calls of the public methods of a class by their names, with whole numbers. */
public final class Calls {
    private final Map<String, Method> methods = new HashMap<>();

    public Calls(Class<?> c) {
        for (Method m : c.getDeclaredMethods()) {
            if (Modifier.isPublic(m.getModifiers())) {
                methods.put(m.getName(), m);
            }
        }
    }

    public int answer(Object on, String name, int... args) {
        Object[] boxed = new Object[args.length];
        for (int i = 0; i < args.length; i++) {
            boxed[i] = args[i];
        }
        try {
            return (Integer) methods.get(name).invoke(on, boxed);
        } catch (InvocationTargetException e) {
            e.getCause().printStackTrace(System.out);
            return Integer.MIN_VALUE;
        } catch (IllegalAccessException e) {
            throw new IllegalStateException(e);
        }
    }
}
