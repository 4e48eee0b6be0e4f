import java.lang.reflect.InvocationTargetException;
import java.lang.reflect.Method;
import java.util.ArrayList;
import java.util.HashMap;
import java.util.List;
import java.util.Map;

/** One run of calls on a SwungShips and on a PlainHarbour; the first answers that differ are told. */
public final class Both {
    private static final Map<String, Method> SWUNG = methodsOf(SwungShips.class);
    private static final Map<String, Method> PLAIN = methodsOf(PlainHarbour.class);
    private static final int SHOWN = 12;

    private final SwungShips swung = new SwungShips();
    private final PlainHarbour plain = new PlainHarbour();
    private final List<String> rows = new ArrayList<>();
    private boolean differs;

    private static Map<String, Method> methodsOf(Class<?> c) {
        Map<String, Method> methods = new HashMap<>();
        for (Method m : c.getDeclaredMethods()) {
            if (java.lang.reflect.Modifier.isPublic(m.getModifiers())) {
                methods.put(m.getName(), m);
            }
        }
        return methods;
    }

    /** What SwungShips answers. */
    public int ask(String name, int... args) {
        int got = call(SWUNG, swung, name, args);
        int due = call(PLAIN, plain, name, args);
        rows.add(name + java.util.Arrays.toString(args) + " = " + got);
        if (got != due && !differs) {
            differs = true;
            tell(due);
        }
        return got;
    }

    private void tell(int due) {
        int from = Math.max(0, rows.size() - SHOWN);
        System.out.println(".. " + from + " calls, then:");
        for (String row : rows.subList(from, rows.size())) {
            System.out.println("  " + row);
        }
        System.out.println("  due is " + due);
    }

    public boolean differs() {
        return differs;
    }

    public int calls() {
        return rows.size();
    }

    private static int call(Map<String, Method> methods, Object on, String name, int[] args) {
        Object[] boxed = new Object[args.length];
        for (int i = 0; i < args.length; i++) {
            boxed[i] = args[i];
        }
        try {
            return (Integer) methods.get(name).invoke(on, boxed);
        } catch (InvocationTargetException e) {
            e.getCause().printStackTrace(System.out);
            return Integer.MIN_VALUE;
        } catch (IllegalAccessException e) {
            throw new IllegalStateException(e);
        }
    }
}
