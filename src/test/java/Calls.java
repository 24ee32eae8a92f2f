import java.lang.reflect.Method;
import java.util.Arrays;
import java.util.HashMap;
import java.util.Map;

/** Calls written as texts, "put(0, 1, 5)", asked of the class or of Model; least and most are the ends of ints. */
final class Calls {
    private static final Map<String, Method> METHODS = new HashMap<>();

    private Calls() {
    }

    static long ask(Object on, String call) {
        int open = call.indexOf('(');
        String inside = call.substring(open + 1, call.length() - 1);
        Object[] arguments = inside.isEmpty() ? new Object[0]
            : Arrays.stream(inside.split(", ")).map(Calls::number).toArray();
        return ask(on, call.substring(0, open), arguments);
    }

    private static long ask(Object on, String name, Object[] arguments) {
        try {
            return ((Number) method(on.getClass(), name, arguments.length).invoke(on, arguments)).longValue();
        } catch (ReflectiveOperationException e) {
            throw new IllegalStateException(name + Arrays.toString(arguments), e);
        }
    }

    static void all(Object on, String... calls) {
        for (String call : calls) {
            ask(on, call);
        }
    }

    private static Integer number(String word) {
        switch (word) {
            case "least": return Integer.MIN_VALUE;
            case "most": return Integer.MAX_VALUE;
            default: return Integer.valueOf(word);
        }
    }

    private static Method method(Class<?> of, String name, int count) throws NoSuchMethodException {
        Method known = METHODS.get(of.getName() + "." + name);
        if (known == null) {
            Class<?>[] types = new Class<?>[count];
            Arrays.fill(types, int.class);
            known = of.getMethod(name, types);
            METHODS.put(of.getName() + "." + name, known);
        }
        return known;
    }
}
