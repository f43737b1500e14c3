import java.lang.reflect.Method;
import java.lang.reflect.Modifier;
import java.util.HashMap;
import java.util.Map;

/** Makes calls told as texts like "leg(0, 1, 200)" on an object; a boolean counts 1 or 0. */
final class Caller {
    private static final Map<Class<?>, Map<String, Method>> KNOWN = new HashMap<>();

    private final Object x;
    private final Map<String, Method> methods;

    Caller(Object x) {
        this.x = x;
        this.methods = KNOWN.computeIfAbsent(x.getClass(), Caller::methodsOf);
    }

    long answer(String call) {
        int open = call.indexOf('(');
        Method method = methods.get(call.substring(0, open));
        String inside = call.substring(open + 1, call.length() - 1).trim();
        String[] words = inside.isEmpty() ? new String[0] : inside.split(", *");
        if (method == null || words.length != method.getParameterCount()) {
            throw new IllegalArgumentException("no such call: " + call);
        }
        Object[] given = new Object[words.length];
        for (int i = 0; i < words.length; i++) {
            if (method.getParameterTypes()[i] == int.class) {
                given[i] = Integer.valueOf(words[i]);
            } else {
                given[i] = Long.valueOf(words[i]);
            }
        }
        try {
            Object got = method.invoke(x, given);
            return got instanceof Boolean ? ((Boolean) got ? 1 : 0) : ((Number) got).longValue();
        } catch (ReflectiveOperationException thrown) {
            throw new IllegalStateException(call + " threw", thrown);
        }
    }

    /** Which of them answer with a boolean can be asked, for a text tells it as true or false. */
    boolean isTrueOrFalse(String call) {
        Method method = methods.get(call.substring(0, call.indexOf('(')));
        return method != null && method.getReturnType() == boolean.class;
    }

    private static Map<String, Method> methodsOf(Class<?> type) {
        Map<String, Method> all = new HashMap<>();
        for (Method method : type.getDeclaredMethods()) {
            if (!Modifier.isPrivate(method.getModifiers()) && !Modifier.isStatic(method.getModifiers())) {
                all.put(method.getName(), method);
            }
        }
        return all;
    }
}
