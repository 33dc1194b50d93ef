import java.io.IOException;
import java.nio.file.Files;
import java.nio.file.Path;
import java.util.ArrayList;
import java.util.LinkedHashMap;
import java.util.List;
import java.util.Map;

/**
 * A test that names the sentence of the document which it holds. The sentences are read from the
 * document itself: what it does not say cannot be named, and what it says must have a test.
 */
final class Sentence {
    /** No call answers for this one. */
    private static final String HEADLINE = "A caravan of camels on a desert route:";
    /** The sentences, or parts of them, that have a test; by the part of the document they stand in. */
    private static final Map<String, List<String>> NAMED = new LinkedHashMap<>();
    private static final Map<String, List<String>> DOCUMENT = read(Path.of("../shared/DOC.md"));

    private Sentence() {
    }

    /** The words may be a part of a sentence, where the sentence names several cases. */
    static void holds(String part, String words, Runnable test) {
        Check.about(part + ": " + words);
        boolean isSaid = DOCUMENT.getOrDefault(part, List.of()).stream().anyMatch(sentence -> sentence.contains(words));
        Check.same("does the document say so", isSaid, true);
        NAMED.computeIfAbsent(part, p -> new ArrayList<>()).add(words);
        int asked = Check.asked();
        try {
            test.run();
        } catch (RuntimeException e) {
            Check.same("the test", "threw " + e, "came to its end");
        }
        Check.same("does the test ask anything", Check.asked() > asked, true);
        Check.about("");
    }

    static void everyOneHasATest() {
        int count = 0;
        for (String part : DOCUMENT.keySet()) {
            for (String sentence : DOCUMENT.get(part)) {
                count++;
                boolean isNamed = sentence.startsWith(HEADLINE)
                    || NAMED.getOrDefault(part, List.of()).stream().anyMatch(sentence::contains);
                Check.same(part + ": '" + sentence + "': has it a test", isNamed, true);
            }
        }
        Check.same("many sentences were read", count > 200, true);
        int tests = NAMED.values().stream().mapToInt(List::size).sum();
        System.out.println(tests + " tests hold " + count + " sentences");
    }

    private static Map<String, List<String>> read(Path document) {
        Map<String, List<String>> sentences = new LinkedHashMap<>();
        String part = "";
        boolean isCode = false;
        for (String line : lines(document)) {
            if (line.startsWith("```")) {
                isCode = !isCode;
            } else if (isCode || line.isBlank() || line.startsWith("Ahead of the calls ")) {
                continue;
            } else if (line.startsWith("#")) {
                part = line.replaceAll("^#+ ", "").replaceAll("^Promise ([0-9]+):.*", "promise $1");
            } else if (line.matches("[1-7][.] .*")) {
                part = "term " + line.charAt(0);
            } else if (!part.equals("Not promised")) {
                String bare = line.replaceAll("^- ", "").replaceAll("^`[^`]*[(][^`]*`: ", "");
                sentences.computeIfAbsent(part, p -> new ArrayList<>()).addAll(List.of(bare.split("(?<=[.]) (?=[A-Z])")));
            }
        }
        return sentences;
    }

    private static List<String> lines(Path document) {
        try {
            return Files.readAllLines(document);
        } catch (IOException e) {
            throw new IllegalStateException(e);
        }
    }
}
