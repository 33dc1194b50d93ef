import java.lang.reflect.Constructor;
import java.lang.reflect.Field;
import java.lang.reflect.Method;
import java.lang.reflect.Modifier;
import java.nio.file.Files;
import java.nio.file.Path;
import java.util.ArrayList;
import java.util.List;
import java.util.TreeSet;

/** The face of the class is the document's: each signature with its exceptions in their order. */
final class FaceTest {
    public static void main(String[] args) throws Exception {
        List<String> due = dueSignatures(Path.of("../shared/DOC.md"));
        TreeSet<String> got = new TreeSet<>();
        for (Constructor<?> constructor : CaravanRoute.class.getDeclaredConstructors()) {
            if (!Modifier.isPrivate(constructor.getModifiers())) {
                got.add(described(constructor.getModifiers(), "", "CaravanRoute",
                    constructor.getParameterTypes(), constructor.getExceptionTypes()));
            }
        }
        TreeSet<String> privateNames = new TreeSet<>();
        TreeSet<String> publicNames = new TreeSet<>();
        for (Method method : CaravanRoute.class.getDeclaredMethods()) {
            if (Modifier.isPrivate(method.getModifiers())) {
                privateNames.add(method.getName());
            } else {
                publicNames.add(method.getName());
                got.add(described(method.getModifiers(), method.getReturnType().getName() + " ",
                    method.getName(), method.getParameterTypes(), method.getExceptionTypes()));
            }
        }
        Check.same("number of signatures in the document", due.size(), 61);
        Check.same("the face", got, new TreeSet<>(due));
        privateNames.retainAll(publicNames);
        Check.same("private methods named like public ones", privateNames.size(), 0);
        Check.same("the class is public and final",
            CaravanRoute.class.getModifiers() & (Modifier.PUBLIC | Modifier.FINAL),
            Modifier.PUBLIC | Modifier.FINAL);
        for (Field field : CaravanRoute.class.getDeclaredFields()) {
            Check.same(field + " is private", Modifier.isPrivate(field.getModifiers()), true);
        }
        Check.end();
    }

    private static String described(int modifiers, String type, String name, Class<?>[] parameters,
            Class<?>[] exceptions) {
        StringBuilder text = new StringBuilder(Modifier.toString(modifiers) + " " + type + name + "(");
        for (Class<?> parameter : parameters) {
            text.append(parameter.getName()).append(';');
        }
        text.append(')');
        for (Class<?> exception : exceptions) {
            text.append(exception.getSimpleName()).append(';');
        }
        return text.toString();
    }

    private static List<String> dueSignatures(Path document) throws Exception {
        List<String> due = new ArrayList<>();
        for (String line : Files.readAllLines(document)) {
            if (line.startsWith("    public ") && line.endsWith(";")) {
                due.add(asDescribed(line.trim()));
            }
        }
        return due;
    }

    private static String asDescribed(String line) {
        int open = line.indexOf('(');
        int close = line.indexOf(')');
        StringBuilder text = new StringBuilder(line.substring(0, open + 1));
        for (String parameter : line.substring(open + 1, close).split(",")) {
            if (!parameter.isBlank()) {
                text.append(parameter.trim().split(" ")[0]).append(';');
            }
        }
        text.append(')');
        String rest = line.substring(close + 1, line.length() - 1).trim();
        if (rest.startsWith("throws ")) {
            for (String exception : rest.substring(7).split(",")) {
                text.append(exception.trim()).append(';');
            }
        }
        return text.toString();
    }
}
