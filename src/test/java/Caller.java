import java.lang.reflect.Method;
import java.util.HashMap;
import java.util.Map;

/** One object, of the class or of the Oracle, called by its methods' names; true counts 1, false 0. */
final class Caller {
    private static final int MOST_CALLS = 512;
    private static final Map<Class<?>, Map<String, Method>> METHODS = new HashMap<>();

    private final Object object;
    private final Map<String, Method> methods;
    private int calls;

    Caller(Object object) {
        this.object = object;
        methods = METHODS.computeIfAbsent(object.getClass(), Caller::methodsOf);
    }

    private static Map<String, Method> methodsOf(Class<?> type) {
        Map<String, Method> all = new HashMap<>();
        for (Method m : type.getDeclaredMethods()) {
            if (!m.isSynthetic()) {
                m.setAccessible(true);
                all.put(m.getName(), m);
            }
        }
        return all;
    }

    long call(String name, int... numbers) {
        Object[] boxed = new Object[numbers.length];
        for (int i = 0; i < numbers.length; i++) {
            boxed[i] = numbers[i];
        }
        calls++;
        if (calls > MOST_CALLS) {
            throw new IllegalStateException("a test asks more than " + MOST_CALLS + " calls of one object");
        }
        try {
            Object answer = methods.get(name).invoke(object, boxed);
            return answer instanceof Boolean yes ? Check.one(yes) : ((Number) answer).longValue();
        } catch (ReflectiveOperationException e) {
            throw new IllegalStateException(name + " does not answer", e);
        }
    }

    int callsLeft() {
        return MOST_CALLS - calls;
    }

    /** Puts a text on the TAPE. */
    void type(String text) {
        for (int i = 0; i < text.length(); i += 20) {
            call("feed", Check.four(text, i), Check.four(text, i + 4), Check.four(text, i + 8), Check.four(text, i + 12),
                Check.four(text, i + 16));
        }
    }
}
