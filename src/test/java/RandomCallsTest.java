import java.lang.reflect.InvocationTargetException;
import java.lang.reflect.Method;
import java.lang.reflect.Modifier;
import java.util.ArrayList;
import java.util.Arrays;
import java.util.Comparator;
import java.util.List;
import java.util.Random;
import java.util.Set;
import java.util.TreeSet;

/**
 * Runs of 512 calls, arguments in and out of their ranges: each answer is that of the model, and
 * no exception is thrown by the machine.
 */
public final class RandomCallsTest {
    private static final int RUNS = 300;
    private static final int CALLS = 512;
    private static final int[] FAR = {Integer.MIN_VALUE, -1, 10, 16, 20, 10001, Integer.MAX_VALUE};

    private final Check check = new Check();
    private final Set<String> outcomes = new TreeSet<>();

    public static void main(String[] args) throws IllegalAccessException {
        RandomCallsTest test = new RandomCallsTest();
        List<Method> face = face();
        for (int run = 0; run < RUNS; run++) {
            test.run(run, face);
        }
        test.everythingHappened();
        test.check.end();
    }

    private static List<Method> face() {
        List<Method> face = new ArrayList<>();
        for (Method method : PutWall.class.getDeclaredMethods()) {
            if (Modifier.isPublic(method.getModifiers())) {
                face.add(method);
            }
        }
        // Reflection tells the methods in no certain order, and a run must be the same each time.
        face.sort(Comparator.comparing(Method::getName));
        return face;
    }

    private void run(int run, List<Method> face) throws IllegalAccessException {
        Random random = new Random(run);
        int cells = random.nextInt(20) - 2;
        PutWall wall = new PutWall(cells);
        WallModel model = new WallModel(cells);
        int today = 0;
        for (int i = 0; i < CALLS; i++) {
            Method method = face.get(random.nextInt(face.size()));
            Object[] arguments = arguments(method, random, today);
            check.topic("run " + run + ", call " + i);
            Object want = model.answer(method.getName(), arguments);
            Object got = answer(wall, method, arguments);
            if (want == null ? got != null : !want.equals(got)) {
                check.fail(text(method, arguments) + " answered " + got + ", due is " + want);
                return;
            }
            if (method.getName().equals("day") && got == null) {
                today = (Integer) arguments[0];
            }
            outcomes.add(method.getName() + " " + kind(method, got));
        }
    }

    private Object answer(PutWall wall, Method method, Object[] arguments)
            throws IllegalAccessException {
        try {
            return method.invoke(wall, arguments);
        } catch (InvocationTargetException e) {
            Throwable thrown = e.getCause();
            if (thrown.getMessage() == null || thrown.getMessage().startsWith("Index ")) {
                check.fail(text(method, arguments) + " let the machine throw " + thrown);
            }
            return thrown.getClass();
        }
    }

    private static String kind(Method method, Object answer) {
        if (answer instanceof Class<?> thrown) {
            return thrown.getSimpleName();
        }
        if (answer instanceof Integer number && !method.getName().equals("scan")) {
            return number < 0 ? "below 0" : "0 or more";
        }
        return "" + answer;
    }

    private static String text(Method method, Object[] arguments) {
        return method.getName() + Arrays.toString(arguments);
    }

    private static Object[] arguments(Method method, Random random, int today) {
        Class<?>[] types = method.getParameterTypes();
        Object[] arguments = new Object[types.length];
        for (int i = 0; i < types.length; i++) {
            if (types[i] == boolean.class) {
                arguments[i] = random.nextInt(3) > 0;
            } else if (random.nextInt(60) == 0) {
                arguments[i] = FAR[random.nextInt(FAR.length)];
            } else {
                arguments[i] = usual(method.getName(), i, random, today);
            }
        }
        return arguments;
    }

    /** Few goods and days near today, so that the calls of a run meet one another. */
    private static int usual(String name, int index, Random random, int today) {
        return switch (name) {
            case "day" -> today + random.nextInt(4) - 1;
            case "miss" -> index == 2 ? today + random.nextInt(5) - 2 : random.nextInt(4);
            case "seed" -> random.nextInt(Integer.MAX_VALUE);
            case "told", "count" -> random.nextInt(7);
            default -> random.nextInt(random.nextInt(4) == 0 ? 12 : 4);
        };
    }

    /** Guards the test itself: runs that never reach a state would prove nothing about it. */
    private void everythingHappened() {
        check.topic("all runs");
        String argument = "IllegalArgumentException";
        String state = "IllegalStateException";
        String noElement = "NoSuchElementException";
        String index = "ArrayIndexOutOfBoundsException";
        happened("tote", "0 or more", argument);
        happened("order", "0 or more", "UnsupportedOperationException");
        happened("line", "null", noElement, argument, state);
        happened("cell", "0 or more", "below 0", noElement, state);
        happened("light", "true", "false", index);
        happened("scan", "1", "-1", "-2", "-3", "-4", "-5", index, argument);
        happened("undo", "0 or more", index, argument, state);
        happened("miss", "0 or more", noElement, argument, state);
        happened("day", "null", argument, state);
        happened("change", "true", "false", noElement, argument, state);
        happened("complete", "true", "false", noElement, state);
        happened("release", "true", "false", index, state);
        happened("sample", "0 or more", "below 0");
        happened("seed", "null", argument);
        happened("told", "0 or more", "below 0", noElement, argument);
        happened("piece", "0 or more", "below 0", noElement, argument);
        happened("errors", "0 or more", argument);
        happened("count", "0 or more", "below 0");
    }

    private void happened(String method, String... kinds) {
        for (String kind : kinds) {
            if (!outcomes.contains(method + " " + kind)) {
                check.fail("never happened: " + method + " " + kind);
            }
        }
    }
}
