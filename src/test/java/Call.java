import java.lang.reflect.InvocationTargetException;
import java.lang.reflect.Method;
import java.lang.reflect.Modifier;
import java.util.Map;
import java.util.TreeMap;

/** Calls of the class by their names, so that a test may keep them in tables. */
final class Call {
    private static final Map<String, Method> methods = new TreeMap<>();

    static {
        for (Method m : OvenRings.class.getDeclaredMethods()) {
            if (Modifier.isPublic(m.getModifiers())) {
                methods.put(m.getName(), m);
            }
        }
    }

    private Call() {
    }

    static String[] names() {
        return methods.keySet().toArray(new String[0]);
    }

    /** The numbers as the call takes them: cut to ints, but for a long. */
    static long[] taken(String name, long... a) {
        long[] taken = a.clone();
        for (int i = 0; i < a.length; i++) {
            taken[i] = methods.get(name).getParameterTypes()[i] == long.class ? a[i] : (int) a[i];
        }
        return taken;
    }

    /** Answers what the call answers. */
    static int of(OvenRings x, String name, long... a) {
        Method m = methods.get(name);
        Object[] given = new Object[a.length];
        for (int i = 0; i < a.length; i++) {
            given[i] = m.getParameterTypes()[i] == long.class ? (Object) a[i] : (Object) (int) a[i];
        }
        try {
            return (Integer) m.invoke(x, given);
        } catch (IllegalAccessException | InvocationTargetException e) {
            throw new AssertionError(text(name, a), e);
        }
    }

    static String text(String name, long... a) {
        StringBuilder call = new StringBuilder(name).append('(');
        for (int i = 0; i < a.length; i++) {
            call.append(i > 0 ? ", " : "").append(a[i]);
        }
        return call.append(')').toString();
    }
}
