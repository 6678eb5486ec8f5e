import java.lang.reflect.Constructor;
import java.lang.reflect.Field;
import java.lang.reflect.Method;
import java.lang.reflect.Modifier;
import java.util.Arrays;
import java.util.Set;
import java.util.TreeSet;

/** The public face is the document's, and nothing else of the class can be seen from outside. */
public final class FaceTest {
    private static final Checks CHECKS = new Checks();
    private static final String[] METHODS = {
        "void row(int, int, int, int, int)", "void move(int, int, int)", "void stretch(int, int, int)",
        "void turn(int)", "void join()", "void push()", "void pop()", "int entry(int, int)",
        "int vertex(int, int, int, int, int)", "boolean use(int, int, int)", "int texel(int, int, int, int)",
        "int clear()", "int draw(int)", "int colour(int, int)", "int owner(int, int)",
        "int compare(int, int, int, int)", "long depth(int, int)", "long triangle(int, int)"};

    public static void main(String[] args) {
        CHECKS.due("public and final", Modifier.PUBLIC | Modifier.FINAL, ExactScene.class::getModifiers);
        CHECKS.due("the methods", new TreeSet<>(Arrays.asList(METHODS)), FaceTest::visibleMethods);
        CHECKS.due("the fields", "[NONE]", FaceTest::visibleFields);
        CHECKS.due("the constructors", "[public ExactScene()]", FaceTest::constructors);
        CHECKS.end("FaceTest");
    }

    private static Set<String> visibleMethods() {
        Set<String> names = new TreeSet<>();
        for (Method method : ExactScene.class.getDeclaredMethods()) {
            if (!Modifier.isPrivate(method.getModifiers())) {
                StringBuilder types = new StringBuilder();
                for (Class<?> type : method.getParameterTypes()) {
                    types.append(types.length() == 0 ? "" : ", ").append(type.getSimpleName());
                }
                names.add(method.getReturnType().getSimpleName() + " " + method.getName() + "(" + types + ")");
            }
        }
        return names;
    }

    private static Set<String> visibleFields() {
        Set<String> names = new TreeSet<>();
        for (Field field : ExactScene.class.getDeclaredFields()) {
            if (!Modifier.isPrivate(field.getModifiers())) {
                names.add(field.getName());
            }
        }
        return names;
    }

    private static String constructors() {
        Constructor<?>[] all = ExactScene.class.getDeclaredConstructors();
        return Arrays.toString(all);
    }
}
