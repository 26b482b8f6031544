import java.io.IOException;
import java.nio.file.Files;
import java.nio.file.Path;
import java.util.LinkedHashSet;
import java.util.List;
import java.util.Set;
import java.util.TreeMap;
import java.util.regex.Matcher;
import java.util.regex.Pattern;

/**
 * The sentences and rows of the document under their headings, without its
 * backticks and dashes, and which of them no test has begun yet.
 */
final class Document {

    // The paragraphs of the terms begin with a word for what they are about; those without one go on about it.
    private static final Pattern LABEL = Pattern.compile("^([A-Z][a-z]+)\\. ");

    private final TreeMap<String, Set<String>> sentences = new TreeMap<>();
    private final TreeMap<String, Set<String>> unsaid = new TreeMap<>();

    Document(String path) throws IOException {
        Matcher sections = Pattern.compile("(?ms)^## (Promise \\d+|Terms)\\b.*?\n(.*?)(?=^## )")
                .matcher(Files.readString(Path.of(path)));
        while (sections.find()) {
            if (sections.group(1).equals("Terms")) {
                readTerms(sections.group(2));
            } else {
                readPromise(sections.group(1), sections.group(2));
            }
        }
    }

    static String promise(int number) {
        return "Promise " + number;
    }

    static String term(String label) {
        return "Term " + label;
    }

    /** Tells whether the sentence stands under the heading, and strikes it off the list of those without a test. */
    boolean begin(String heading, String sentence) {
        unsaid.getOrDefault(heading, Set.of()).remove(sentence);
        return sentences.getOrDefault(heading, Set.of()).contains(sentence);
    }

    /** The sentences under the heading that no test has begun; an unknown heading is one too. */
    Set<String> unsaid(String heading) {
        return unsaid.getOrDefault(heading, Set.of("no such heading"));
    }

    /** A promise has a line of the call's head and its sentences, and a line for each row. */
    private void readPromise(String heading, String body) {
        for (String line : body.split("\n")) {
            String text = line.replaceFirst("^`[^`]*\\)[^`]*`: ", "").replaceFirst("^- ", "").replace("`", "");
            add(heading, text);
        }
    }

    /**
     * The form of a command text is a row a rule. What stands ahead of which
     * calls in the interface is nothing that a call can show.
     */
    private void readTerms(String body) {
        String heading = "";
        for (String line : body.split("\n")) {
            Matcher label = LABEL.matcher(line);
            heading = label.find() ? term(label.group(1)) : heading;
            if (line.matches(" +[a-z]+ = .*")) {
                add(heading, line.strip());
            } else if (line.matches("[A-Z].*") && !line.startsWith("Ahead of the calls ")) {
                add(heading, LABEL.matcher(line).replaceFirst(""));
            }
        }
    }

    private void add(String heading, String text) {
        List<String> found = text.isBlank() ? List.of() : List.of(text.split("(?<=\\.) (?=[A-Z])"));
        sentences.computeIfAbsent(heading, h -> new LinkedHashSet<>()).addAll(found);
        unsaid.computeIfAbsent(heading, h -> new LinkedHashSet<>()).addAll(found);
    }
}
