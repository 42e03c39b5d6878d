import java.lang.reflect.InvocationTargetException;
import java.lang.reflect.Method;
import java.util.HashMap;
import java.util.Map;

/** An object under test whose calls are written as texts: "maid(7, 0)"; least and most are the ints' own. */
final class Subject {
    /** What later calls answer is free. */
    private static final int CALLS_LIMIT = 512;
    private static final Map<String, Method> METHODS = new HashMap<>();

    static {
        for (Method m : MilestoneMaids.class.getDeclaredMethods()) {
            if (java.lang.reflect.Modifier.isPublic(m.getModifiers())) METHODS.put(m.getName(), m);
        }
    }

    private final MilestoneMaids x = new MilestoneMaids();
    private int calls = 0;

    long ask(String call) {
        int open = call.indexOf('(');
        Method method = METHODS.get(call.substring(0, open));
        String inner = call.substring(open + 1, call.indexOf(')'));
        String[] words = inner.isEmpty() ? new String[0] : inner.split(", ");
        Object[] arguments = new Object[words.length];
        for (int i = 0; i < words.length; i++) arguments[i] = argument(words[i], method.getParameterTypes()[i]);
        if (++calls > CALLS_LIMIT) throw new IllegalStateException("more calls than are promised: " + call);
        try {
            return ((Number) method.invoke(x, arguments)).longValue();
        } catch (InvocationTargetException | IllegalAccessException e) {
            throw new IllegalStateException(call, e);
        }
    }

    private static Object argument(String word, Class<?> type) {
        if (type == boolean.class) return Boolean.valueOf(word);
        if (type == long.class) return number(word);
        return Math.toIntExact(number(word));
    }

    static long number(String word) {
        return switch (word) {
            case "least" -> Integer.MIN_VALUE;
            case "most" -> Integer.MAX_VALUE;
            case "NO" -> Long.MIN_VALUE;
            default -> Long.parseLong(word);
        };
    }

    /** Calls whose answers play no part. */
    Subject does(String... all) {
        for (String call : all) ask(call);
        return this;
    }

    Subject times(int n, String call) {
        for (int i = 0; i < n; i++) ask(call);
        return this;
    }

    Subject feeds(String text) {
        for (char sign : text.toCharArray()) ask("feed(" + (int) sign + ")");
        return this;
    }
}
