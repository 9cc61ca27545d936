import java.lang.reflect.Constructor;
import java.lang.reflect.Field;
import java.lang.reflect.Method;
import java.lang.reflect.Modifier;
import java.nio.file.Files;
import java.nio.file.Path;
import java.util.ArrayList;
import java.util.List;
import java.util.Set;
import java.util.TreeSet;
import java.util.stream.Collectors;
import java.util.stream.Stream;

/** The public face is the document's, no less and no more, and the source keeps to what a look at its text can tell. */
public final class FaceTest {
    private static final Path DOCUMENT = Path.of("..", "shared", "DOC.md");
    private static final Path SOURCE = Path.of("src", "main", "java", "BenchBroker.java");
    // What LANGUAGE.md rules out, as far as a word can show it.
    private static final String[] FORBIDDEN = {"::", "finally", "synchronized", "assert ", "package ", "hashCode",
        "getMessage", "Exact(", "static {", "Thread", "Random", "System.nanoTime", "System.currentTimeMillis",
        "System.out", "extends Exception", "extends RuntimeException", "NaN"};
    private static final Set<String> LIBRARY = Set.of("import java.util.Arrays;", "import java.util.ArrayList;",
        "import java.util.List;", "import java.util.Iterator;", "import java.util.NoSuchElementException;");

    public static void main(String[] args) {
        Check.test("the face", FaceTest::face);
        Check.test("no other member is seen from outside", FaceTest::hiddenMembers);
        Check.test("no private method bears a public name", FaceTest::privateNames);
        Check.test("the text of the source", FaceTest::source);
        Check.finish();
    }

    private static String read(Path path) {
        try {
            return Files.readString(path);
        } catch (java.io.IOException e) {
            throw new IllegalStateException(e);
        }
    }

    /** The lines of the face in the document, without what reflection does not tell. */
    private static Set<String> facePromised() {
        String text = read(DOCUMENT);
        String code = text.substring(text.indexOf("```java") + 7);
        code = code.substring(0, code.indexOf("```"));
        Set<String> lines = new TreeSet<>();
        for (String line : code.split("\n")) {
            if (line.startsWith("    public ")) {
                lines.add(line.trim().replaceAll("(int|char) \\w+([,)])", "$1$2").replace(";", ""));
            }
        }
        return lines;
    }

    private static Set<String> faceBuilt() {
        Set<String> lines = new TreeSet<>();
        for (Method m : BenchBroker.class.getDeclaredMethods()) {
            if (Modifier.isPublic(m.getModifiers())) {
                lines.add("public " + m.getReturnType().getSimpleName() + " " + m.getName()
                    + names(m.getParameterTypes(), "(", ")", true) + names(m.getExceptionTypes(), " throws ", "", false));
            }
        }
        for (Constructor<?> c : BenchBroker.class.getDeclaredConstructors()) {
            lines.add("public BenchBroker" + names(c.getParameterTypes(), "(", ")", true));
        }
        for (Field f : BenchBroker.class.getDeclaredFields()) {
            if (Modifier.isPublic(f.getModifiers())) {
                lines.add(Modifier.toString(f.getModifiers()) + " int " + f.getName() + " = " + valueOf(f));
            }
        }
        return lines;
    }

    private static String names(Class<?>[] types, String before, String after, boolean always) {
        if (types.length == 0 && !always) {
            return "";
        }
        return Stream.of(types).map(Class::getSimpleName).collect(Collectors.joining(", ", before, after));
    }

    private static Object valueOf(Field field) {
        try {
            return field.get(null);
        } catch (IllegalAccessException e) {
            throw new IllegalStateException(e);
        }
    }

    private static void face() {
        Check.due(facePromised(), () -> faceBuilt());
        Check.due(Modifier.PUBLIC | Modifier.FINAL, () -> BenchBroker.class.getModifiers());
        Check.due(76, () -> facePromised().size());
    }

    private static void hiddenMembers() {
        List<String> seen = new ArrayList<>();
        for (Method m : BenchBroker.class.getDeclaredMethods()) {
            if ((m.getModifiers() & (Modifier.PUBLIC | Modifier.PRIVATE)) == 0 && !m.isSynthetic()) {
                seen.add(m.getName());
            }
        }
        for (Field f : BenchBroker.class.getDeclaredFields()) {
            if ((f.getModifiers() & (Modifier.PUBLIC | Modifier.PRIVATE)) == 0 && !f.isSynthetic()) {
                seen.add(f.getName());
            }
        }
        Check.due(List.of(), () -> seen);
    }

    private static void privateNames() {
        Set<String> open = new TreeSet<>();
        for (Method m : BenchBroker.class.getMethods()) {
            open.add(m.getName());
        }
        List<String> shared = new ArrayList<>();
        List<Class<?>> classes = new ArrayList<>(List.of(BenchBroker.class.getDeclaredClasses()));
        classes.add(BenchBroker.class);
        for (Class<?> c : classes) {
            for (Method m : c.getDeclaredMethods()) {
                if (!Modifier.isPublic(m.getModifiers()) && open.contains(m.getName())) {
                    shared.add(m.getName());
                }
            }
        }
        Check.due(List.of(), () -> shared);
    }

    private static void source() {
        String text = read(SOURCE);
        String code = text.replaceAll("//.*|/\\*\\*.*|'.'|\"[^\"]*\"", "");
        for (String word : FORBIDDEN) {
            if (code.contains(word)) {
                Check.wrong("the source holds " + word);
            }
        }
        Set<String> imports = text.lines().filter(l -> l.startsWith("import ")).collect(Collectors.toSet());
        Check.due(true, () -> LIBRARY.containsAll(imports));
        Check.due(true, () -> code.lines().filter(l -> l.contains("->")).allMatch(l -> l.matches(" *(case|default).*")));
        Check.due(true, () -> text.chars().allMatch(c -> c < 128));
        longMethods(text);
    }

    /** Rule 11 asks for some sixty lines at most; a method here opens at four or eight spaces. */
    private static void longMethods(String text) {
        int opened = 0;
        String[] lines = text.split("\n");
        for (int i = 0; i < lines.length; i++) {
            if (lines[i].matches(" {4}( {4})?\\S.*\\) ?.*\\{")) {
                opened = i;
            }
            if (lines[i].matches(" {4}( {4})?\\}") && i - opened > 60) {
                Check.wrong("a method of " + (i - opened) + " lines ends at line " + (i + 1));
            }
        }
    }
}
