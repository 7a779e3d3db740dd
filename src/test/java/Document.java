import java.io.IOException;
import java.io.UncheckedIOException;
import java.nio.charset.StandardCharsets;
import java.nio.file.Files;
import java.nio.file.Path;
import java.util.ArrayList;
import java.util.LinkedHashMap;
import java.util.List;
import java.util.Map;
import java.util.regex.Matcher;
import java.util.regex.Pattern;

/** The sentences of ../shared/DOC.md, under "Terms" and under "Promise 1" to "Promise 65". */
final class Document {
    private static final Path PATH = Path.of("../shared/DOC.md");
    private static final Pattern HEADING = Pattern.compile("## (Terms|Promise \\d+).*");
    private static final Map<String, List<String>> SENTENCES = read();

    private Document() {
    }

    static Iterable<String> headings() {
        return SENTENCES.keySet();
    }

    static List<String> sentencesOf(String heading) {
        return SENTENCES.getOrDefault(heading, List.of());
    }

    /** The sentences under the heading that hold these words. */
    static List<String> find(String heading, String words) {
        List<String> found = new ArrayList<>();
        for (String sentence : sentencesOf(heading)) {
            if (sentence.contains(words)) {
                found.add(sentence);
            }
        }
        return found;
    }

    /**
     * The names of the paragraphs of "Terms" say nothing, and what a parameter is that has no range
     * of its own stands again in the sentence that tells what is thrown.
     */
    static boolean needsATest(String sentence) {
        boolean isName = sentence.matches("(Varieties and classes|Growers and plots|Loads|Tanks|Lots|Money"
                + "|Setup text|Undo)\\.|The error codes are:");
        boolean isParameter = sentence.startsWith("- `");
        return !isName && (!isParameter || sentence.matches(".*\\d.*"));
    }

    private static Map<String, List<String>> read() {
        Map<String, List<String>> all = new LinkedHashMap<>();
        List<String> open = new ArrayList<>();
        for (String line : lines()) {
            Matcher heading = HEADING.matcher(line);
            if (line.startsWith("## ")) {
                open = new ArrayList<>();
            }
            if (heading.matches()) {
                all.put(heading.group(1), open);
            } else if (!line.isBlank()) {
                String text = line.strip().replaceFirst("^`[^`]*\\([^`]*`: ", "");
                open.addAll(List.of(text.split("(?<=\\.) (?=[A-Z])")));
            }
        }
        return all;
    }

    private static List<String> lines() {
        try {
            return Files.readAllLines(PATH, StandardCharsets.UTF_8);
        } catch (IOException e) {
            throw new UncheckedIOException(e);
        }
    }
}
