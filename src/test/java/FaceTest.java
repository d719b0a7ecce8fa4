import java.lang.reflect.Constructor;
import java.lang.reflect.Field;
import java.lang.reflect.Method;
import java.lang.reflect.Modifier;
import java.util.Map;
import java.util.TreeMap;

/** The class has the document's face, with its throws clauses in their order, and nothing more. */
public final class FaceTest {
    public static void main(String[] args) {
        Class<?> face = LoggedStore.class;
        Check.due("public", Modifier.isPublic(face.getModifiers()), true);
        Check.due("final", Modifier.isFinal(face.getModifiers()), true);
        constructors(face);
        methods(face);
        for (Field field : face.getDeclaredFields()) {
            Check.due(field.getName() + " is private", Modifier.isPrivate(field.getModifiers()), true);
        }
        for (Class<?> inside : face.getDeclaredClasses()) {
            Check.due(inside.getName() + " is static", Modifier.isStatic(inside.getModifiers()), true);
        }
        Check.end();
    }

    private static void constructors(Class<?> face) {
        Constructor<?>[] all = face.getDeclaredConstructors();
        Check.due("constructors", all.length, 1);
        Check.due("the constructor", all[0].toString(), "public LoggedStore()");
    }

    private static void methods(Class<?> face) {
        Map<String, String> due = dueMethods();
        int found = 0;
        for (Method method : face.getDeclaredMethods()) {
            String name = method.getName();
            if (Modifier.isPrivate(method.getModifiers())) {
                Check.due("a private method named " + name, due.containsKey(name), false);
            } else {
                found++;
                Check.due(name, signature(method), due.getOrDefault(name, "not of the face"));
            }
        }
        Check.due("methods of the face", found, due.size());
    }

    private static String signature(Method method) {
        StringBuilder text = new StringBuilder(Modifier.toString(method.getModifiers()));
        text.append(' ').append(method.getReturnType().getName()).append(" (");
        for (Class<?> type : method.getParameterTypes()) {
            text.append(type.getName()).append(' ');
        }
        text.append(')');
        for (Class<?> type : method.getExceptionTypes()) {
            text.append(' ').append(type.getSimpleName());
        }
        return text.toString();
    }

    private static Map<String, String> dueMethods() {
        String state = " IllegalStateException";
        String argument = state + " IllegalArgumentException";
        String none = argument + " NoSuchElementException";
        String unsupported = argument + " UnsupportedOperationException";
        Map<String, String> due = new TreeMap<>();
        due.put("begin", "public int (int )" + unsupported);
        due.put("get", "public int (int int )" + none);
        due.put("put", "public boolean (int int int )" + argument);
        due.put("remove", "public void (int int )" + none);
        due.put("next", "public int (int int )" + argument);
        due.put("drop", "public int (int )" + argument);
        due.put("commit", "public int (int )" + unsupported + " ArithmeticException");
        due.put("checkpoint", "public int ()" + state);
        due.put("number", "public int (int )" + none);
        due.put("count", "public int ()" + state);
        due.put("version", "public int ()" + state);
        due.put("left", "public int ()" + state);
        due.put("arm", "public void (int int )");
        due.put("isDown", "public boolean ()");
        due.put("recover", "public int ()");
        due.put("word", "public int (int int )");
        return due;
    }
}
