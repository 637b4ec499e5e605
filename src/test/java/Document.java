import java.io.IOException;
import java.io.UncheckedIOException;
import java.nio.file.Files;
import java.nio.file.Path;
import java.util.LinkedHashSet;
import java.util.List;
import java.util.Set;
import java.util.TreeMap;
import java.util.regex.Matcher;
import java.util.regex.Pattern;

/** The sentences of ../shared/DOC.md by the number of their promise; 0 for those outside the promises. */
final class Document {
    private static final Pattern PROMISE = Pattern.compile("## Promise (\\d+):");
    private static final TreeMap<Integer, Set<String>> SENTENCES = read();

    private Document() {
    }

    static boolean has(int promise, String sentence) {
        return SENTENCES.getOrDefault(promise, Set.of()).contains(sentence);
    }

    static TreeMap<Integer, Set<String>> sentences() {
        return SENTENCES;
    }

    private static TreeMap<Integer, Set<String>> read() {
        TreeMap<Integer, Set<String>> sentences = new TreeMap<>();
        for (String section : text().replaceAll("(?s)```.*?```", "").split("\n(?=## )")) {
            Matcher promise = PROMISE.matcher(section);
            int number = promise.lookingAt() ? Integer.parseInt(promise.group(1)) : 0;
            Set<String> found = sentences.computeIfAbsent(number, none -> new LinkedHashSet<>());
            // the first line is the section's name; a parameter's line stands for itself
            for (String part : section.substring(section.indexOf('\n') + 1).split("\n\\s*\n|\n(?=- `)")) {
                found.addAll(List.of(part.strip().replaceAll("\\s+", " ").split("(?<=\\.) (?=[A-Z])")));
            }
            found.remove("");
        }
        return sentences;
    }

    private static String text() {
        try {
            return Files.readString(Path.of("../shared/DOC.md"));
        } catch (IOException missing) {
            throw new UncheckedIOException(missing);
        }
    }
}
