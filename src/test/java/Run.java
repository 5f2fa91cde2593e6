import java.lang.reflect.InvocationTargetException;
import java.lang.reflect.Method;
import java.util.ArrayList;
import java.util.Arrays;
import java.util.HashMap;
import java.util.List;
import java.util.Map;
import java.util.Set;

/**
 * Calls made one after the other on one new object, each told as a text such as "write(0, 39)".
 * They are kept, so that they can be made once more on another object.
 */
final class Run {
    /** The document promises nothing behind so many calls, so that no test may rely on more. */
    private static final int MOST_CALLS = 512;
    private static final Set<String> NAMED = Set.of("throws.IndexOutOfBoundsException",
        "throws.IllegalArgumentException", "throws.IllegalStateException");
    private static final Map<String, Method> FACE = new HashMap<>();

    static {
        for (Method method : LentRoom.class.getMethods()) {
            if (method.getDeclaringClass() == LentRoom.class) {
                FACE.put(method.getName(), method);
            }
        }
    }

    private record Call(Method method, Object[] values) {
    }

    private final LentRoom object = new LentRoom();
    private final List<Call> made = new ArrayList<>();

    /** A new object on which the same calls have been made. */
    Run again() {
        Run other = new Run();
        for (Call call : made) {
            other.make(call);
        }
        return other;
    }

    /**
     * Makes a call and returns its answer, a number or throws.NameOfTheException. Besides the calls of
     * the face there are text(T), which puts T into an empty buffer, device(T), which loads it then, and
     * fill(s, first, last), which writes those pages; the last call that they make answers.
     */
    String call(String told) {
        int open = told.indexOf('(');
        String name = told.substring(0, open);
        String inside = told.substring(open + 1, told.lastIndexOf(')')).trim();
        switch (name) {
            case "text":
                return text(inside);
            case "device":
                text(inside);
                return call("load()");
            case "fill":
                String[] part = inside.split(", ");
                String answer = "";
                for (int page = Integer.parseInt(part[1]); page <= Integer.parseInt(part[2]); page++) {
                    answer = call("write(" + part[0] + ", " + page + ")");
                }
                return answer;
            default:
                return make(new Call(FACE.get(name), values(FACE.get(name), inside)));
        }
    }

    private String text(String signs) {
        String answer = call("clearText()");
        for (char sign : signs.toCharArray()) {
            answer = call("append(" + (int) sign + ")");
        }
        return answer;
    }

    private static Object[] values(Method method, String inside) {
        Class<?>[] types = method.getParameterTypes();
        String[] words = inside.isEmpty() ? new String[0] : inside.split(",");
        Object[] values = new Object[types.length];
        for (int i = 0; i < types.length; i++) {
            long value = number(words[i].trim(), types[i]);
            if (types[i] == int.class) {
                values[i] = Math.toIntExact(value);
            } else {
                values[i] = value;
            }
        }
        return values;
    }

    /** LEAST and MOST are the bounds of the argument's own type. */
    private static long number(String word, Class<?> type) {
        switch (word) {
            case "LEAST":
                return type == int.class ? Integer.MIN_VALUE : Long.MIN_VALUE;
            case "MOST":
                return type == int.class ? Integer.MAX_VALUE : Long.MAX_VALUE;
            default:
                return Long.parseLong(word);
        }
    }

    private String make(Call call) {
        if (made.size() == MOST_CALLS) {
            throw new IllegalStateException("a test makes more than " + MOST_CALLS + " calls on an object");
        }
        made.add(call);
        try {
            return String.valueOf(call.method().invoke(object, call.values()));
        } catch (InvocationTargetException e) {
            String thrown = "throws." + e.getCause().getClass().getSimpleName();
            Check.same(call.method().getName() + Arrays.toString(call.values()) + " throws what the document names",
                String.valueOf(NAMED.contains(thrown)), "true");
            return thrown;
        } catch (IllegalAccessException e) {
            throw new IllegalStateException(e);
        }
    }
}
