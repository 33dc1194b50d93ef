import java.lang.reflect.Field;
import java.lang.reflect.Method;
import java.lang.reflect.Modifier;
import java.nio.file.Files;
import java.nio.file.Path;
import java.util.List;
import java.util.Set;
import java.util.TreeSet;
import java.util.regex.Matcher;
import java.util.regex.Pattern;

/** What LANGUAGE.md rules out and what can be seen in the source without reading it in full. */
final class LanguageTest {
    private static final List<Class<?>> CONSTANTS = List.of(int.class, long.class, boolean.class, char.class, String.class);
    private static final Set<String> FACE = namesOfTheFace();

    public static void main(String[] args) throws Exception {
        String source = Files.readString(Path.of("src/main/java/CaravanRoute.java"));
        String code = source.replaceAll("(?s)/\\*.*?\\*/", "").replaceAll("//[^\n]*", "");
        String bare = code.replaceAll("\"[^\"\n]*\"", "\"\"");
        for (String forbidden : new String[] {"package ", "->", "::", "catch", "finally", "synchronized", "assert ",
            "static {", "instanceof", "System.out", "Math.abs(", "Thread", "Random", "@", "protected ", "Object",
            "equals(", "toString(", "hashCode(", "Exact(", "length()]", "\" +", "+ \""}) {
            Check.same("holds '" + forbidden + "'", bare.contains(forbidden), false);
        }
        Check.same("imports", found("import [^;]+;", bare), new TreeSet<>(List.of("import java.util.NoSuchElementException;")));
        Check.same("library calls", found("\\b(Math|System|Arrays|Integer|Long|String)\\.\\w+", bare),
            new TreeSet<>(List.of("Math.max", "Math.min", "System.arraycopy")));
        Check.same("static fields that are not final",
            found("static (?!final|int|boolean|void|byte|String|long)\\w+ \\w+ *[=;]", bare), new TreeSet<>());
        Check.same("characters above 126", found("[^\\n\\x20-\\x7e]", source), new TreeSet<>());
        Check.same("throws of another form", found("throw (?!new (IllegalState|IllegalArgument|IndexOutOfBounds|NoSuchElement)Exception\\(\"\"\\);).*", bare), new TreeSet<>());
        longMethods(code);
        Class<?>[] inside = CaravanRoute.class.getDeclaredClasses();
        Check.same("at most 12 classes", inside.length < 12, true);
        looksAt(CaravanRoute.class);
        for (Class<?> kind : inside) {
            Check.same(kind + " is static", Modifier.isStatic(kind.getModifiers()), true);
            Check.same(kind + " is not for others", Modifier.isPublic(kind.getModifiers()) || Modifier.isProtected(kind.getModifiers()), false);
            looksAt(kind);
        }
        Check.end();
    }

    private static void looksAt(Class<?> kind) {
        int fields = 0;
        for (Field field : kind.getDeclaredFields()) {
            if (Modifier.isStatic(field.getModifiers())) {
                Check.same(field + " is final", Modifier.isFinal(field.getModifiers()), true);
                Check.same(field + " is a constant", CONSTANTS.contains(field.getType()), true);
            } else {
                fields++;
            }
        }
        Check.same(kind + " has at most 20 fields", fields <= 20, true);
        for (Method method : kind.getDeclaredMethods()) {
            boolean isOfTheFace = Modifier.isPublic(method.getModifiers());
            Check.same(method + " has at most 7 parameters", method.getParameterCount() <= 7, true);
            Check.same(method + " bears a name of the face", FACE.contains(method.getName()), isOfTheFace);
        }
    }

    private static Set<String> namesOfTheFace() {
        Set<String> names = new TreeSet<>();
        for (Method method : CaravanRoute.class.getMethods()) {
            if (method.getDeclaringClass() == CaravanRoute.class) {
                names.add(method.getName());
            }
        }
        return names;
    }

    private static TreeSet<String> found(String pattern, String text) {
        TreeSet<String> all = new TreeSet<>();
        Matcher matcher = Pattern.compile(pattern).matcher(text);
        while (matcher.find()) {
            all.add(matcher.group());
        }
        return all;
    }

    /** A method's head and its last brace stand at the same depth of four or eight spaces. */
    private static void longMethods(String code) {
        String[] lines = code.split("\n");
        int methods = 0;
        for (int i = 0; i < lines.length; i++) {
            String indent = lines[i].replaceAll("\\S.*", "");
            if (!lines[i].matches(" {4,8}[^ ].*\\(.*\\{") || lines[i].matches(" *(if|for|while|\\}).*")) {
                continue;
            }
            int end = i;
            while (end < lines.length && !lines[end].equals(indent + "}")) {
                end++;
            }
            methods++;
            Check.same("at most 60 lines: " + lines[i].trim(), end - i <= 60, true);
        }
        Check.same("methods were found", methods > 80, true);
    }
}
