import java.lang.reflect.InvocationTargetException;
import java.lang.reflect.Method;
import java.lang.reflect.Modifier;
import java.nio.charset.StandardCharsets;
import java.nio.file.Files;
import java.nio.file.Path;
import java.util.Set;
import java.util.TreeSet;
import java.util.regex.Matcher;
import java.util.regex.Pattern;

/** The calls that README.md shows: each answers what stands behind it, and none of the face is left out. */
public final class ReadmeTest {
    private static final Path PAGE = Path.of("README.md");
    private static final String NEW_DISK = "Shingletrack disk = new Shingletrack();";
    private static final Pattern CALL = Pattern.compile("disk\\.(\\w+)\\((.*)\\); +// ([^ ,]+).*");

    private ReadmeTest() {
    }

    public static void main(String[] args) throws Exception {
        Set<String> shown = new TreeSet<>();
        Shingletrack disk = null;
        boolean isCode = false;
        for (String line : Files.readAllLines(PAGE, StandardCharsets.UTF_8)) {
            Matcher call = CALL.matcher(line);
            if (line.startsWith("```")) {
                isCode = line.equals("```java");
            } else if (isCode && line.equals(NEW_DISK)) {
                disk = new Shingletrack();
            } else if (isCode) {
                Checks.same("a call with its answer: " + line, "true", String.valueOf(call.matches()));
                shown.add(call.group(1));
                Checks.same(line, call.group(3), answer(disk, call.group(1), call.group(2)));
            }
        }
        everyCallIsNamed(shown);
        Checks.finish("ReadmeTest");
    }

    private static String answer(Shingletrack disk, String name, String given) throws Exception {
        try {
            return String.valueOf(method(name).invoke(disk, arguments(method(name), given)));
        } catch (InvocationTargetException e) {
            return "throws." + e.getCause().getClass().getSimpleName();
        }
    }

    private static Method method(String name) throws NoSuchMethodException {
        for (Method method : Shingletrack.class.getDeclaredMethods()) {
            if (Modifier.isPublic(method.getModifiers()) && method.getName().equals(name)) {
                return method;
            }
        }
        throw new NoSuchMethodException(name);
    }

    private static Object[] arguments(Method method, String given) {
        String[] texts = given.isEmpty() ? new String[0] : given.split(", ");
        Object[] arguments = new Object[texts.length];
        for (int i = 0; i < texts.length; i++) {
            arguments[i] = argument(method.getParameterTypes()[i], texts[i]);
        }
        return arguments;
    }

    private static Object argument(Class<?> type, String text) {
        if (type == long.class) {
            return Long.decode(text.replace("L", ""));
        }
        if (type == char.class) {
            return text.charAt(1);
        }
        return type == boolean.class ? (Object) Boolean.valueOf(text) : (Object) Integer.valueOf(text);
    }

    private static void everyCallIsNamed(Set<String> shown) throws Exception {
        String page = Files.readString(PAGE, StandardCharsets.UTF_8);
        for (Method method : Shingletrack.class.getDeclaredMethods()) {
            if (Modifier.isPublic(method.getModifiers())) {
                String name = method.getName();
                boolean isThere = shown.contains(name) || page.contains("`" + name + "`");
                Checks.same(name + " stands in README.md", "true", String.valueOf(isThere));
            }
        }
    }
}
