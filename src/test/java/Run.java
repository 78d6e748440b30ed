import java.lang.reflect.InvocationTargetException;
import java.lang.reflect.Method;
import java.lang.reflect.Modifier;
import java.util.HashMap;
import java.util.Map;

/** A new object and the calls made on it, written as the issues write them: "scan(0, 4, 3)". */
final class Run {
    static final String DONE = "done";

    private static final int MOST_CALLS = 512;
    private static final Map<String, Method> FACE = face();

    private final PutWall wall;
    private int calls = 0;

    Run(int cells) {
        wall = new PutWall(cells);
    }

    /** What the call answers: its number or truth, "done" for none, or the exception's name. */
    String answer(String call) {
        calls++;
        if (calls > MOST_CALLS) {
            throw new AssertionError("nothing is promised of a call above the 512th: " + call);
        }
        int open = call.indexOf('(');
        Method method = FACE.get(call.substring(0, open));
        Object[] arguments = arguments(call.substring(open + 1, call.length() - 1));
        try {
            Object answer = method.invoke(wall, arguments);
            return answer == null ? DONE : answer.toString();
        } catch (InvocationTargetException e) {
            return nameOf(e.getCause());
        } catch (IllegalAccessException e) {
            throw new AssertionError(e);
        }
    }

    /** Calls that bring the object where a test begins: none of them may be refused. */
    Run given(String... steps) {
        for (String step : steps) {
            String answer = answer(step);
            if (answer.endsWith("Exception")) {
                throw new AssertionError("a step of the test itself: " + step + ": " + answer);
            }
        }
        return this;
    }

    private static String nameOf(Throwable thrown) {
        String message = thrown.getMessage();
        boolean byMachine = message == null || message.startsWith("Index ");
        return (byMachine ? "the machine's " : "") + thrown.getClass().getSimpleName();
    }

    private static Object[] arguments(String inside) {
        if (inside.isEmpty()) {
            return new Object[0];
        }
        String[] words = inside.split(", ");
        Object[] arguments = new Object[words.length];
        for (int i = 0; i < words.length; i++) {
            arguments[i] = argument(words[i]);
        }
        return arguments;
    }

    private static Object argument(String word) {
        return switch (word) {
            case "true" -> true;
            case "false" -> false;
            case "MIN" -> Integer.MIN_VALUE;
            case "MAX" -> Integer.MAX_VALUE;
            default -> Integer.valueOf(word);
        };
    }

    private static Map<String, Method> face() {
        Map<String, Method> face = new HashMap<>();
        for (Method method : PutWall.class.getDeclaredMethods()) {
            if (Modifier.isPublic(method.getModifiers())) {
                face.put(method.getName(), method);
            }
        }
        return face;
    }
}
