import java.lang.reflect.Constructor;
import java.lang.reflect.Field;
import java.lang.reflect.Method;
import java.lang.reflect.Modifier;
import java.util.Arrays;
import java.util.HashSet;
import java.util.List;
import java.util.Set;
import java.util.TreeSet;

/** The class has the document's face, with the exceptions of each method, and nothing beside it. */
public final class FaceTest {
    private static final String NO_ELEMENT = "NoSuchElementException";
    private static final String ARGUMENT = "IllegalArgumentException";
    private static final String STATE = "IllegalStateException";
    private static final String INDEX = "ArrayIndexOutOfBoundsException";
    private static final String NO_ROOM = "UnsupportedOperationException";

    private static final List<String> FACE = List.of(
            face("int tote(int,int)", ARGUMENT),
            face("int order()", NO_ROOM),
            face("void line(int,int,int)", NO_ELEMENT, ARGUMENT, STATE),
            face("int cell(int)", NO_ELEMENT, STATE),
            face("boolean light(int,boolean)", INDEX),
            face("int scan(int,int,int)", INDEX, ARGUMENT),
            face("int undo(int,int)", INDEX, ARGUMENT, STATE),
            face("int miss(int,int,int)", NO_ELEMENT, ARGUMENT, STATE),
            face("void day(int)", ARGUMENT, STATE),
            face("boolean change(int,int,int)", NO_ELEMENT, ARGUMENT, STATE),
            face("boolean complete(int)", NO_ELEMENT, STATE),
            face("boolean release(int)", INDEX, STATE),
            face("int sample()"),
            face("void seed(int)", ARGUMENT),
            face("int told(int,int)", NO_ELEMENT, ARGUMENT),
            face("int piece(int,int,int)", NO_ELEMENT, ARGUMENT),
            face("int errors(int)", ARGUMENT),
            face("int count(int)"));

    private static String face(String signature, String... exceptions) {
        return signature + " throws " + Arrays.toString(exceptions);
    }

    private static String faceOf(Method method) {
        StringBuilder types = new StringBuilder();
        for (Class<?> type : method.getParameterTypes()) {
            types.append(types.length() == 0 ? "" : ",").append(type.getName());
        }
        String[] exceptions = Arrays.stream(method.getExceptionTypes())
                .map(Class::getSimpleName).toArray(String[]::new);
        return face(method.getReturnType().getName() + " " + method.getName() + "(" + types + ")",
                exceptions);
    }

    public static void main(String[] args) {
        Check check = new Check();
        check.topic("the face");
        int modifiers = PutWall.class.getModifiers();
        check.due(true, "public and final",
                () -> Modifier.isPublic(modifiers) && Modifier.isFinal(modifiers));

        Set<String> open = new TreeSet<>();
        Set<String> openNames = new HashSet<>();
        for (Method method : PutWall.class.getDeclaredMethods()) {
            if (!Modifier.isPrivate(method.getModifiers())) {
                open.add(faceOf(method));
                openNames.add(method.getName());
            }
        }
        check.due(new TreeSet<>(FACE), "the methods that are not private", () -> open);

        for (Method method : PutWall.class.getDeclaredMethods()) {
            if (Modifier.isPrivate(method.getModifiers()) && openNames.contains(method.getName())) {
                check.fail("a private method is named " + method.getName());
            }
        }
        for (Field field : PutWall.class.getDeclaredFields()) {
            if (!Modifier.isPrivate(field.getModifiers())) {
                check.fail("the field " + field.getName() + " is not private");
            }
        }
        Constructor<?>[] constructors = PutWall.class.getDeclaredConstructors();
        check.due("[public PutWall(int)]", "the constructors", () -> Arrays.toString(constructors));
        check.end();
    }
}
