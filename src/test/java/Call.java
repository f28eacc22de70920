import java.lang.reflect.Method;
import java.util.HashMap;
import java.util.Map;

/** A call of BreadOvens that is told as a text: its name, then its numbers or words for them. */
record Call(String text, Method method, Object[] values) {
    private static final Map<String, Method> METHODS = new HashMap<>();
    private static final Map<String, Integer> WORDS = Map.of(
        "OVEN", 0, "BIG", 1, "OLD", 2, "SHRINE", 3, "WEAK", 4, "BYTES", 0, "INTS", 1, "LONGS", 2);

    static {
        for (Method method : BreadOvens.class.getMethods()) {
            METHODS.put(method.getName(), method);
        }
    }

    static Call of(String text) {
        String[] words = text.split(" ");
        long[] numbers = new long[words.length - 1];
        for (int i = 0; i < numbers.length; i++) {
            Integer known = WORDS.get(words[i + 1]);
            numbers[i] = known == null ? Long.parseLong(words[i + 1]) : known;
        }
        return of(text, words[0], numbers);
    }

    static Call of(String text, String name, long[] numbers) {
        Method method = METHODS.get(name);
        if (method == null || method.getParameterCount() != numbers.length) {
            throw new IllegalArgumentException(text);
        }
        Object[] values = new Object[numbers.length];
        for (int i = 0; i < values.length; i++) {
            boolean whole = method.getParameterTypes()[i] == long.class;
            values[i] = whole ? (Object) numbers[i] : (Object) Math.toIntExact(numbers[i]);
        }
        return new Call(text, method, values);
    }

    long on(BreadOvens x) {
        try {
            return ((Number) method.invoke(x, values)).longValue();
        } catch (ReflectiveOperationException e) {
            throw new IllegalStateException(text, e);
        }
    }
}
