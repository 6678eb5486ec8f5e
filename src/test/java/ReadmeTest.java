import java.io.IOException;
import java.lang.reflect.InvocationTargetException;
import java.lang.reflect.Method;
import java.nio.file.Files;
import java.nio.file.Path;
import java.util.regex.Matcher;
import java.util.regex.Pattern;

/** Makes the calls of README.md's example; the first word of each comment is the answer that is due. */
public final class ReadmeTest {
    private static final Checks CHECKS = new Checks();
    private static final Pattern CALL = Pattern.compile("scene\\.(\\w+)\\(([-\\d, ]*)\\);\\s+// (true|-?\\d+)?.*");

    public static void main(String[] args) throws IOException {
        ExactScene scene = new ExactScene();
        for (String line : Files.readAllLines(Path.of("README.md"))) {
            if (line.startsWith("scene.")) {
                dueAsTold(scene, line);
            }
        }
        CHECKS.end("ReadmeTest");
    }

    private static void dueAsTold(ExactScene scene, String line) {
        Matcher call = CALL.matcher(line);
        if (!call.matches()) {
            CHECKS.due(line, "a call and a comment", () -> "neither");
            return;
        }
        String want = call.group(3) == null ? "null" : call.group(3);
        CHECKS.due(line, want, () -> answer(scene, call.group(1), numbers(call.group(2))));
    }

    private static Object[] numbers(String list) {
        return Pattern.compile("-?\\d+").matcher(list).results().map(n -> Integer.valueOf(n.group())).toArray();
    }

    private static Object answer(ExactScene scene, String name, Object[] numbers) {
        for (Method method : ExactScene.class.getMethods()) {
            if (method.getName().equals(name)) {
                try {
                    return method.invoke(scene, numbers);
                } catch (IllegalAccessException | InvocationTargetException e) {
                    return e.getCause();
                }
            }
        }
        return "no such call";
    }
}
