import java.lang.reflect.InvocationTargetException;
import java.lang.reflect.Method;
import java.util.Map;
import java.util.Set;
import java.util.TreeMap;

/** Calls a method of the class by its name. */
final class Calls implements Asked {
    private static final Map<String, Method> METHODS = methods();

    private final KnotFair x;

    Calls(KnotFair x) {
        this.x = x;
    }

    private static Map<String, Method> methods() {
        Map<String, Method> all = new TreeMap<>();
        for (Method m : KnotFair.class.getMethods()) {
            if (m.getDeclaringClass() == KnotFair.class) {
                all.put(m.getName(), m);
            }
        }
        return all;
    }

    static Set<String> names() {
        return METHODS.keySet();
    }

    static boolean isCall(String name) {
        return METHODS.containsKey(name);
    }

    @Override
    public long call(String name, long... a) {
        Method m = METHODS.get(name);
        if (m == null || m.getParameterCount() != a.length) {
            throw new IllegalArgumentException(name + " of " + a.length);
        }
        Object[] given = new Object[a.length];
        for (int k = 0; k < a.length; k++) {
            given[k] = m.getParameterTypes()[k] == long.class ? (Object) a[k] : (Object) (int) a[k];
        }
        try {
            return ((Number) m.invoke(x, given)).longValue();
        } catch (IllegalAccessException | InvocationTargetException e) {
            throw new IllegalStateException(m + " threw", e);
        }
    }
}
