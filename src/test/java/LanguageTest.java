import java.io.IOException;
import java.lang.reflect.Constructor;
import java.lang.reflect.Field;
import java.lang.reflect.Method;
import java.lang.reflect.Modifier;
import java.nio.file.Files;
import java.nio.file.Path;
import java.util.Arrays;
import java.util.Set;
import java.util.TreeSet;
import java.util.regex.Matcher;
import java.util.regex.Pattern;

/** The public face is the document's, and the source keeps to what LANGUAGE.md lets be seen. */
public final class LanguageTest {
    private static final Path SOURCE = Path.of("src/main/java/PolicyRack.java");
    private static final String[] FACE = {
        "int shelf(int, int, int, int) IllegalArgumentException IllegalStateException",
        "int get(int, int) IllegalArgumentException NoSuchElementException",
        "int put(int, int, int) IllegalArgumentException",
        "int drop(int, int) IllegalArgumentException",
        "int has(int, int) IllegalArgumentException",
        "int victim(int) IllegalArgumentException",
        "int list(int, int, int) IllegalArgumentException",
        "int told(int, int) IllegalArgumentException",
        "int use(int) IllegalArgumentException IllegalStateException",
        "int clear()",
        "int distance(int) IllegalArgumentException",
        "int curve(int) IllegalArgumentException",
        "int optimum(int) IllegalArgumentException",
        "int count(int) IllegalArgumentException"};
    private static final String[] RULED_OUT = {
        "->", "::", "@\\w", "\\bfinally\\b", "\\bsynchronized\\b", "\\bassert\\b", "\\bcatch\\b",
        "^\\s*package\\b", "^\\s*static \\{", "\\bprotected\\b", "\\bSystem\\.(?!arraycopy\\()",
        "\\bArrays\\.(?!copyOf|fill|;)", "\\bMath\\.(?!min\\(|max\\()", "[^\\x00-\\x7f]",
        "^import (?!java\\.util\\.(Arrays|NoSuchElementException);)"};

    private static final Script SCRIPT = new Script();

    public static void main(String[] args) throws IOException {
        checkFace();
        checkClassesInside();
        checkSizes(PolicyRack.class);
        for (Class<?> inside : PolicyRack.class.getDeclaredClasses()) {
            checkSizes(inside);
        }
        String source = Files.readString(SOURCE);
        checkLengths(source);
        for (String ruledOut : RULED_OUT) {
            boolean found = Pattern.compile(ruledOut, Pattern.MULTILINE).matcher(source).find();
            SCRIPT.same("source has " + ruledOut, "false", Boolean.toString(found));
        }
        SCRIPT.end();
    }

    private static void checkFace() {
        Set<String> methods = new TreeSet<>();
        Set<String> publicNames = new TreeSet<>();
        for (Method method : PolicyRack.class.getDeclaredMethods()) {
            if (!Modifier.isPrivate(method.getModifiers())) {
                methods.add(told(method));
                publicNames.add(method.getName());
            }
        }
        SCRIPT.same("the face", new TreeSet<>(Arrays.asList(FACE)).toString(), methods.toString());
        checkPrivateNames(PolicyRack.class, publicNames);
        for (Class<?> inside : PolicyRack.class.getDeclaredClasses()) {
            checkPrivateNames(inside, publicNames);
        }
        Set<String> constants = new TreeSet<>();
        for (Field field : PolicyRack.class.getDeclaredFields()) {
            if (!Modifier.isPrivate(field.getModifiers())) {
                constants.add(Modifier.toString(field.getModifiers()) + " " + field.getName());
            }
        }
        SCRIPT.same("constants", "[public static final NONE]", constants.toString());
        Constructor<?>[] constructors = PolicyRack.class.getDeclaredConstructors();
        SCRIPT.same("constructors", "[public PolicyRack()]", Arrays.toString(constructors));
        SCRIPT.same("the class", "public final", Modifier.toString(PolicyRack.class.getModifiers()));
    }

    private static String told(Method method) {
        StringBuilder text = new StringBuilder();
        String params = Arrays.toString(method.getParameterTypes());
        text.append(method.getReturnType()).append(' ').append(method.getName()).append('(')
                .append(params, 1, params.length() - 1).append(')');
        for (Class<?> thrown : method.getExceptionTypes()) {
            text.append(' ').append(thrown.getSimpleName());
        }
        return text.toString();
    }

    private static void checkPrivateNames(Class<?> type, Set<String> publicNames) {
        for (Method method : type.getDeclaredMethods()) {
            if (Modifier.isPrivate(method.getModifiers())) {
                SCRIPT.same(type.getSimpleName() + "." + method.getName() + " bears a public name",
                        "false", Boolean.toString(publicNames.contains(method.getName())));
            }
        }
    }

    private static void checkSizes(Class<?> type) {
        int fields = 0;
        for (Field field : type.getDeclaredFields()) {
            fields += Modifier.isStatic(field.getModifiers()) ? 0 : 1;
        }
        SCRIPT.same(type.getSimpleName() + " has more than twenty fields", "false",
                Boolean.toString(fields > 20));
        for (Method method : type.getDeclaredMethods()) {
            SCRIPT.same(type.getSimpleName() + "." + method.getName() + " takes more than seven",
                    "false", Boolean.toString(method.getParameterCount() > 7));
        }
    }

    /** A method is what stands between a line that opens it and the brace just below that line. */
    private static void checkLengths(String source) {
        Matcher method = Pattern.compile("^( {4}| {8})(?! )[^\\n]*\\([^{;]*\\{\\n(.*?)^\\1\\}$",
                Pattern.MULTILINE | Pattern.DOTALL).matcher(source);
        int found = 0;
        while (method.find()) {
            found++;
            long lines = method.group(2).lines().count();
            SCRIPT.same("longer than sixty lines: " + method.group().lines().findFirst().get(),
                    "false", Boolean.toString(lines > 60));
        }
        SCRIPT.same("few methods seen", "false", Boolean.toString(found < FACE.length));
    }

    private static void checkClassesInside() {
        Class<?>[] inside = PolicyRack.class.getDeclaredClasses();
        SCRIPT.same("more than twelve classes", "false", Boolean.toString(inside.length > 11));
        for (Class<?> type : inside) {
            int modifiers = type.getModifiers();
            boolean good = Modifier.isStatic(modifiers)
                    && !Modifier.isPublic(modifiers) && !Modifier.isProtected(modifiers);
            SCRIPT.same(type.getSimpleName() + " is static and not seen", "true",
                    Boolean.toString(good));
            for (Field field : type.getDeclaredFields()) {
                boolean kept = !Modifier.isStatic(field.getModifiers())
                        || Modifier.isFinal(field.getModifiers());
                SCRIPT.same(type.getSimpleName() + "." + field.getName() + " is final if static",
                        "true", Boolean.toString(kept));
            }
        }
    }
}
