import java.nio.file.Files;
import java.nio.file.Path;
import java.util.TreeSet;
import java.util.regex.Matcher;
import java.util.regex.Pattern;

/** What LANGUAGE.md rules out and what can be seen in the source without reading it in full. */
final class LanguageTest {
    public static void main(String[] args) throws Exception {
        String source = Files.readString(Path.of("src/main/java/CaravanRoute.java"));
        String code = source.replaceAll("(?s)/\\*.*?\\*/", "").replaceAll("//[^\n]*", "");
        String bare = code.replaceAll("\"[^\"\n]*\"", "\"\"");
        for (String forbidden : new String[] {"package ", "->", "::", "catch", "finally", "synchronized", "assert ",
            "static {", "instanceof", "System.out", "Math.abs(", "Thread", "Random", "@", "protected ", "Object",
            "equals(", "toString(", "hashCode(", "Exact(", "length()]", "\" +", "+ \""}) {
            Check.same("holds '" + forbidden + "'", bare.contains(forbidden), false);
        }
        Check.same("imports", found("import [^;]+;", bare), new TreeSet<>(java.util.List.of("import java.util.NoSuchElementException;")));
        Check.same("library calls", found("\\b(Math|System|Arrays|Integer|Long|String)\\.\\w+", bare),
            new TreeSet<>(java.util.List.of("Math.max", "Math.min", "System.arraycopy")));
        Check.same("static fields that are not final",
            found("static (?!final|int|boolean|void|byte|String|long)\\w+ \\w+ *[=;]", bare), new TreeSet<>());
        Check.same("characters above 126", found("[^\\n\\x20-\\x7e]", source), new TreeSet<>());
        longMethods(code);
        Check.end();
    }

    private static TreeSet<String> found(String pattern, String text) {
        TreeSet<String> all = new TreeSet<>();
        Matcher matcher = Pattern.compile(pattern).matcher(text);
        while (matcher.find()) {
            all.add(matcher.group());
        }
        return all;
    }

    /** A method's head and its last brace stand at the same depth of four or eight spaces. */
    private static void longMethods(String code) {
        String[] lines = code.split("\n");
        int methods = 0;
        for (int i = 0; i < lines.length; i++) {
            String indent = lines[i].replaceAll("\\S.*", "");
            if (!lines[i].matches(" {4,8}[^ ].*\\(.*\\{") || lines[i].matches(" *(if|for|while|\\}).*")) {
                continue;
            }
            int end = i;
            while (end < lines.length && !lines[end].equals(indent + "}")) {
                end++;
            }
            methods++;
            Check.same("at most 60 lines: " + lines[i].trim(), end - i <= 60, true);
        }
        Check.same("methods were found", methods > 80, true);
    }
}
