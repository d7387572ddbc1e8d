import java.lang.reflect.Constructor;
import java.lang.reflect.Field;
import java.lang.reflect.Method;
import java.lang.reflect.Modifier;
import java.nio.charset.StandardCharsets;
import java.nio.file.Files;
import java.nio.file.Path;
import java.util.ArrayList;
import java.util.List;
import java.util.Set;
import java.util.TreeSet;

/** The public face against the document's, and what of the language's rules a text can show. */
public final class FaceTest {
    private static final Path DOCUMENT = Path.of("..", "shared", "DOC.md");
    private static final Path SOURCE = Path.of("src", "main", "java", "Shingletrack.java");

    private FaceTest() {
    }

    public static void main(String[] args) throws Exception {
        faceIsTheDocuments();
        nothingElseIsSeen();
        noPrivateMethodBearsAPublicName();
        staticFieldsAreConstants();
        sourceKeepsToTheLibrary();
        sizesAreKept();
        methodsStayShort();
        Checks.finish("FaceTest");
    }

    private static String shortNames(String text) {
        return text.replaceAll("java\\.(lang|util)\\.", "").replaceAll(", ", ",");
    }

    private static void faceIsTheDocuments() throws Exception {
        Set<String> due = new TreeSet<>();
        for (String line : Files.readAllLines(DOCUMENT, StandardCharsets.UTF_8)) {
            if (line.startsWith("    public ") && line.endsWith(";")) {
                String call = line.strip().replaceAll("(int|long|char|boolean) \\w+([,)])", "$1$2");
                due.add(shortNames(call.substring(0, call.length() - 1)));
            }
        }
        Set<String> got = new TreeSet<>();
        for (Constructor<?> constructor : Shingletrack.class.getDeclaredConstructors()) {
            got.add(shortNames(constructor.toString()));
        }
        for (Method method : Shingletrack.class.getDeclaredMethods()) {
            if (Modifier.isPublic(method.getModifiers())) {
                got.add(shortNames(method.toString()).replace(" Shingletrack.", " "));
            }
        }
        got.removeIf(call -> call.equals("public Shingletrack()"));
        due.removeIf(call -> call.equals("public Shingletrack()"));
        Checks.same("the face", due.toString(), got.toString());
        Checks.same("the calls of the face", "39", String.valueOf(got.size()));
    }

    private static void nothingElseIsSeen() {
        int modifiers = Shingletrack.class.getModifiers();
        Checks.same("public and final", "true",
                String.valueOf(Modifier.isPublic(modifiers) && Modifier.isFinal(modifiers)));
        for (Method method : Shingletrack.class.getDeclaredMethods()) {
            int seen = method.getModifiers() & (Modifier.PUBLIC | Modifier.PRIVATE);
            Checks.same(method + " public or private", "true",
                    String.valueOf(method.isSynthetic() || seen != 0));
        }
        for (Field field : Shingletrack.class.getDeclaredFields()) {
            Checks.same(field + " private", "true",
                    String.valueOf(Modifier.isPrivate(field.getModifiers())));
        }
    }

    private static List<Class<?>> allClasses() {
        List<Class<?>> all = new ArrayList<>(List.of(Shingletrack.class.getDeclaredClasses()));
        all.add(Shingletrack.class);
        return all;
    }

    private static void noPrivateMethodBearsAPublicName() {
        Set<String> names = new TreeSet<>();
        for (Method method : Shingletrack.class.getDeclaredMethods()) {
            if (Modifier.isPublic(method.getModifiers())) {
                names.add(method.getName());
            }
        }
        for (Class<?> type : allClasses()) {
            for (Method method : type.getDeclaredMethods()) {
                boolean isFace = Modifier.isPublic(method.getModifiers());
                Checks.same(method + " has a name of its own", "true",
                        String.valueOf(isFace || !names.contains(method.getName())));
            }
        }
    }

    private static void staticFieldsAreConstants() {
        Set<String> allowed = Set.of("int", "long", "boolean", "char", "String");
        for (Class<?> type : allClasses()) {
            for (Field field : type.getDeclaredFields()) {
                int modifiers = field.getModifiers();
                boolean isFine = Modifier.isFinal(modifiers)
                        && allowed.contains(field.getType().getSimpleName());
                Checks.same(field + " is a constant", "true",
                        String.valueOf(!Modifier.isStatic(modifiers) || isFine));
            }
        }
    }

    private static void sizesAreKept() {
        Checks.same("at most twelve classes", "true", String.valueOf(allClasses().size() <= 12));
        for (Class<?> type : allClasses()) {
            int fields = 0;
            for (Field field : type.getDeclaredFields()) {
                fields += Modifier.isStatic(field.getModifiers()) ? 0 : 1;
            }
            Checks.same(type + " has at most twenty fields", "true", String.valueOf(fields <= 20));
            for (Method method : type.getDeclaredMethods()) {
                Checks.same(method + " takes at most seven", "true",
                        String.valueOf(method.getParameterCount() <= 7));
            }
        }
    }

    // A method ends with the brace that stands as far in as its first line.
    private static void methodsStayShort() throws Exception {
        List<String> lines = Files.readAllLines(SOURCE, StandardCharsets.UTF_8);
        for (int first = 0; first < lines.size(); first++) {
            String line = lines.get(first);
            String margin = line.substring(0, line.length() - line.stripLeading().length());
            boolean isDeep = margin.length() == 4 || margin.length() == 8;
            if (isDeep && line.endsWith(" {") && !line.contains(" class ")) {
                int last = first;
                while (!lines.get(last).equals(margin + "}")) {
                    last++;
                }
                Checks.same("short: " + line.strip(), "true", String.valueOf(last - first < 60));
            }
        }
    }

    private static void sourceKeepsToTheLibrary() throws Exception {
        String source = Files.readString(SOURCE, StandardCharsets.UTF_8);
        String code = source.replaceAll("(?s)/\\*.*?\\*/", "").replaceAll("//[^\n]*", "");
        for (String word : List.of("->", "::", "Float.", "Double.", "System.", "finally",
                "synchronized", "assert ", "catch", "Exact(", "package ", "static {")) {
            Checks.same("without " + word, "false", String.valueOf(code.contains(word)));
        }
        String imports = code.replaceAll("(?m)^(?!import ).*$", "").strip();
        Checks.same("imports", "import java.util.NoSuchElementException;", imports);
    }
}
