import java.io.IOException;
import java.lang.reflect.Constructor;
import java.lang.reflect.Field;
import java.lang.reflect.Method;
import java.lang.reflect.Modifier;
import java.nio.file.Files;
import java.nio.file.Path;
import java.util.Set;
import java.util.TreeSet;
import java.util.regex.Matcher;
import java.util.regex.Pattern;

/** The face is the document's and no more, and the source keeps to LANGUAGE.md where words can tell. */
public final class FaceTest {
    private static final String[] FACE = {
        "fork 1", "peek 1", "happen 1", "hear 2", "join 2", "share 2", "drop 1", "order 2", "knows 2", "height 2",
        "owner 1", "name 2", "tree 2", "about 2", "growth 2", "unlike 1", "image 1", "restore 1", "count 1"};
    private static final String[] CONSTANTS = {
        "UNKNOWN -1", "OUTSIDE -2", "STATE -3", "FULL -4", "NO -5", "NONE -6"};
    /** What the class takes from the library now; what else rule 4 names may be put here when it is needed. */
    private static final Set<String> LIBRARY = Set.of(
        "Math.max", "Math.min", "Long.bitCount", "Integer.bitCount", "System.arraycopy");
    private static final int LONGEST_METHOD = 60;
    private static final int MOST_PARAMETERS = 7;
    private static final int MOST_CLASSES = 12;
    private static final int MOST_FIELDS = 20;
    private static final String FORBIDDEN =
        "\\b(throw|throws|try|catch|finally|synchronized|assert|import|package|protected|native|volatile)\\b|->|::";

    private static int wrong = 0;

    private static void due(String what, Object want, Object got) {
        if (!want.equals(got)) {
            wrong++;
            System.out.println(what + ": found " + got + ", due is " + want);
        }
    }

    private static void lookAtMethods() {
        Set<String> found = new TreeSet<>();
        Set<String> publicNames = new TreeSet<>();
        for (Method method : SpanStamps.class.getDeclaredMethods()) {
            if (Modifier.isPrivate(method.getModifiers())) {
                continue;
            }
            found.add(method.getName() + " " + method.getParameterCount());
            publicNames.add(method.getName());
            due(method + " public", Modifier.PUBLIC, method.getModifiers());
            due(method + " answers", int.class, method.getReturnType());
            for (Class<?> type : method.getParameterTypes()) {
                due(method + " takes", int.class, type);
            }
        }
        due("methods", new TreeSet<>(Set.of(FACE)), found);
        for (Method method : SpanStamps.class.getDeclaredMethods()) {
            boolean clash = Modifier.isPrivate(method.getModifiers()) && publicNames.contains(method.getName());
            due(method + " bears a public name", false, clash);
        }
    }

    private static void lookAtFields() throws IllegalAccessException {
        Set<String> found = new TreeSet<>();
        for (Field field : SpanStamps.class.getDeclaredFields()) {
            int modifiers = field.getModifiers();
            if (!Modifier.isPrivate(modifiers)) {
                due(field + " is", Modifier.PUBLIC | Modifier.STATIC | Modifier.FINAL, modifiers);
                found.add(field.getName() + " " + field.getInt(null));
            }
            due(field + " static only if final", false, Modifier.isStatic(modifiers) && !Modifier.isFinal(modifiers));
        }
        due("constants", new TreeSet<>(Set.of(CONSTANTS)), found);
    }

    private static void lookAtClasses() {
        due("the class", Modifier.PUBLIC | Modifier.FINAL, SpanStamps.class.getModifiers());
        Constructor<?>[] constructors = SpanStamps.class.getDeclaredConstructors();
        due("constructors", 1, constructors.length);
        due("the constructor", Modifier.PUBLIC, constructors[0].getModifiers());
        due("its parameters", 0, constructors[0].getParameterCount());
        for (Class<?> inside : SpanStamps.class.getDeclaredClasses()) {
            due(inside + " is static", true, Modifier.isStatic(inside.getModifiers()));
            due(inside + " is public", false, Modifier.isPublic(inside.getModifiers()));
        }
    }

    /** Rules 5 and 11, of the class and of those inside it. */
    private static void lookAtSizes() {
        Class<?>[] inside = SpanStamps.class.getDeclaredClasses();
        due("more than " + MOST_CLASSES + " classes", false, inside.length + 1 > MOST_CLASSES);
        lookAtSize(SpanStamps.class);
        for (Class<?> one : inside) {
            lookAtSize(one);
        }
    }

    private static void lookAtSize(Class<?> one) {
        int fields = 0;
        for (Field field : one.getDeclaredFields()) {
            boolean isStatic = Modifier.isStatic(field.getModifiers());
            fields += isStatic ? 0 : 1;
            due(field + " is static and no constant", false,
                isStatic && !(Modifier.isFinal(field.getModifiers()) && field.getType() == int.class));
        }
        due(one + " has more than " + MOST_FIELDS + " fields", false, fields > MOST_FIELDS);
        for (Method method : one.getDeclaredMethods()) {
            due(method + " takes too much", false, method.getParameterCount() > MOST_PARAMETERS);
        }
    }

    private static void lookAtSource() throws IOException {
        String source = Files.readString(Path.of("src/main/java/SpanStamps.java"));
        // the lines stay, so that methods keep their length
        String code = source.replaceAll("(?s)/\\*.*?\\*/", "").replaceAll("//[^\n]*", "");
        Matcher matcher = Pattern.compile(FORBIDDEN).matcher(code);
        while (matcher.find()) {
            due("a word that LANGUAGE.md leaves out", "", matcher.group());
        }
        Matcher divided = Pattern.compile("[/%]").matcher(code);
        due("a divisor, which would have to be looked at", false, divided.find());
        lookAtLibrary(code);
        lookAtLengths(source);
    }

    private static void lookAtLibrary(String code) {
        Set<String> own = new TreeSet<>();
        for (Class<?> inside : SpanStamps.class.getDeclaredClasses()) {
            own.add(inside.getSimpleName());
        }
        Matcher used = Pattern.compile("\\b([A-Z][a-z]\\w*)\\.\\w+").matcher(code);
        while (used.find()) {
            due(used.group() + " is allowed", true, own.contains(used.group(1)) || LIBRARY.contains(used.group()));
        }
    }

    /** A method begins with a line that ends its parameters, and ends with a brace as far in as that line. */
    private static void lookAtLengths(String source) {
        Matcher method = Pattern.compile("(?ms)^( {4}| {8})(?:\\w[\\w\\[\\] ]*)\\([^;{}]*\\) \\{\\n.*?^\\1\\}$")
            .matcher(source);
        int methods = 0;
        while (method.find()) {
            methods++;
            long lines = method.group().lines().count();
            due(method.group().lines().findFirst().get().trim() + " is too long", false, lines > LONGEST_METHOD);
        }
        due("every method was measured", true, methods >= declared());
    }

    private static int declared() {
        int declared = SpanStamps.class.getDeclaredMethods().length;
        for (Class<?> inside : SpanStamps.class.getDeclaredClasses()) {
            declared += inside.getDeclaredMethods().length;
        }
        return declared;
    }

    public static void main(String[] args) throws Exception {
        lookAtMethods();
        lookAtFields();
        lookAtClasses();
        lookAtSizes();
        lookAtSource();
        System.out.println(wrong == 0 ? "the face is as due" : wrong + " things are not as due");
        if (wrong != 0) {
            System.exit(1);
        }
    }
}
