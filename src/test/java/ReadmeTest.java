import java.io.IOException;
import java.lang.reflect.InvocationTargetException;
import java.lang.reflect.Method;
import java.nio.file.Files;
import java.nio.file.Path;
import java.util.HashSet;
import java.util.Set;
import java.util.regex.Matcher;
import java.util.regex.Pattern;

/** README.md tells the truth: each call in its Java blocks answers what stands behind it. */
public final class ReadmeTest {
    // store.name(arguments); // the answer, and perhaps a colon and a remark
    private static final Pattern CALL =
            Pattern.compile(" *store\\.(\\w+)\\((.*)\\); +// ([^: ]+)(: .*)?");

    private final LoggedStore store = new LoggedStore();
    private final Set<String> called = new HashSet<>();

    public static void main(String[] args) throws IOException {
        ReadmeTest test = new ReadmeTest();
        boolean inJava = false;
        for (String line : Files.readAllLines(Path.of("README.md"))) {
            if (line.startsWith("```")) {
                inJava = line.equals("```java");
            } else if (inJava) {
                test.run(line);
            }
        }
        test.showsEachCall();
        Check.end();
    }

    private void run(String line) {
        Matcher call = CALL.matcher(line);
        if (call.matches()) {
            Method method = methodNamed(call.group(1));
            called.add(method.getName());
            Check.due(line.trim(), answerOf(method, argumentsOf(call.group(2))), call.group(3));
        } else {
            Check.due("a call that the test passes over: " + line, line.contains("store."), false);
        }
    }

    private void showsEachCall() {
        String[] due = {"begin", "put", "commit", "checkpoint", "arm", "recover"};
        for (String name : due) {
            Check.due("README.md shows " + name, called.contains(name), true);
        }
    }

    private static Method methodNamed(String name) {
        for (Method method : LoggedStore.class.getMethods()) {
            if (method.getName().equals(name)) {
                return method;
            }
        }
        throw new IllegalArgumentException(name);
    }

    private static Object[] argumentsOf(String text) {
        String[] parts = text.isEmpty() ? new String[0] : text.split(", ");
        Object[] arguments = new Object[parts.length];
        for (int i = 0; i < parts.length; i++) {
            arguments[i] = Integer.valueOf(parts[i]);
        }
        return arguments;
    }

    private String answerOf(Method method, Object[] arguments) {
        try {
            Object answer = method.invoke(store, arguments);
            return method.getReturnType() == void.class ? "done" : answer.toString();
        } catch (InvocationTargetException e) {
            return e.getCause().getClass().getSimpleName();
        } catch (IllegalAccessException e) {
            return "not public";
        }
    }
}
