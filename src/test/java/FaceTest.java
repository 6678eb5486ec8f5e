import java.lang.reflect.Field;
import java.lang.reflect.Method;
import java.lang.reflect.Modifier;
import java.util.Arrays;
import java.util.Set;
import java.util.TreeSet;

/** The public face is the document's, and nothing else of the class can be seen from outside. */
public final class FaceTest {
    private static final Checks CHECKS = new Checks();
    private static final String[] METHODS = {
        "public void row(int, int, int, int, int) throws IllegalArgumentException",
        "public void move(int, int, int) throws ArithmeticException",
        "public void stretch(int, int, int) throws ArithmeticException",
        "public void turn(int) throws IllegalArgumentException",
        "public void join() throws IllegalStateException, ArithmeticException",
        "public void push() throws IllegalStateException",
        "public void pop() throws IllegalStateException",
        "public int entry(int, int) throws IndexOutOfBoundsException",
        "public int vertex(int, int, int, int, int) throws IllegalArgumentException, IllegalStateException",
        "public boolean use(int, int, int)",
        "public int texel(int, int, int, int) throws IndexOutOfBoundsException",
        "public int clear()",
        "public int draw(int)",
        "public int colour(int, int) throws IndexOutOfBoundsException",
        "public int owner(int, int) throws IndexOutOfBoundsException",
        "public int compare(int, int, int, int) throws IndexOutOfBoundsException, IllegalStateException",
        "public long depth(int, int) throws IndexOutOfBoundsException, IllegalStateException",
        "public long triangle(int, int) throws IndexOutOfBoundsException"};

    public static void main(String[] args) {
        CHECKS.due("public and final", Modifier.PUBLIC | Modifier.FINAL, ExactScene.class::getModifiers);
        CHECKS.due("the methods", new TreeSet<>(Arrays.asList(METHODS)), FaceTest::visibleMethods);
        CHECKS.due("the fields", "[public static final int NONE]", FaceTest::visibleFields);
        CHECKS.due("the constructors", "[public ExactScene()]",
                () -> Arrays.toString(ExactScene.class.getDeclaredConstructors()));
        CHECKS.end("FaceTest");
    }

    private static Set<String> visibleMethods() {
        Set<String> faces = new TreeSet<>();
        for (Method method : ExactScene.class.getDeclaredMethods()) {
            if (!Modifier.isPrivate(method.getModifiers())) {
                faces.add(face(method));
            }
        }
        return faces;
    }

    private static String face(Method method) {
        String thrown = names(method.getExceptionTypes());
        return Modifier.toString(method.getModifiers()) + " " + method.getReturnType().getSimpleName() + " "
                + method.getName() + "(" + names(method.getParameterTypes()) + ")"
                + (thrown.isEmpty() ? "" : " throws " + thrown);
    }

    private static String names(Class<?>[] types) {
        StringBuilder names = new StringBuilder();
        for (Class<?> type : types) {
            names.append(names.length() == 0 ? "" : ", ").append(type.getSimpleName());
        }
        return names.toString();
    }

    private static Set<String> visibleFields() {
        Set<String> faces = new TreeSet<>();
        for (Field field : ExactScene.class.getDeclaredFields()) {
            if (!Modifier.isPrivate(field.getModifiers())) {
                faces.add(Modifier.toString(field.getModifiers()) + " " + field.getType().getSimpleName() + " "
                        + field.getName());
            }
        }
        return faces;
    }
}
