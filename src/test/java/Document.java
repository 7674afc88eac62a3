import java.io.IOException;
import java.nio.file.Files;
import java.nio.file.Path;
import java.util.LinkedHashMap;
import java.util.Map;
import java.util.regex.Pattern;

/** The sentences of the document, and which of them a test has been about. */
final class Document {
    /** Sentences ahead of the promises' own headings belong to no one promise. */
    private static final int TERMS = 0;
    private static final Pattern HEADING = Pattern.compile("## Promise (\\d+): .*");
    /** A full stop, but not of "..", or a ".." that a new term follows. */
    private static final Pattern STOP = Pattern.compile("(?<![. ])\\.(?:\\s+|$)|(?<=\\.\\.)\\.?\\s+(?=[A-Z]{2})");

    private final Map<String, Integer> asked = new LinkedHashMap<>();

    Document(Path path) throws IOException {
        int section = -1;
        for (String line : Files.readAllLines(path)) {
            String bare = line.trim();
            var heading = HEADING.matcher(bare);
            if (heading.matches()) {
                section = Integer.parseInt(heading.group(1));
            } else if (bare.startsWith("## ")) {
                section = bare.equals("## Terms") ? TERMS : -1;
            } else if (section >= 0 && !bare.startsWith("```")) {
                cut(section, section > 0 ? bare.replaceFirst("^`[^`]*`: ", "") : bare);
            }
        }
    }

    private void cut(int section, String line) {
        for (String sentence : STOP.split(line)) {
            if (!sentence.isBlank() && !sentence.startsWith("====")) {
                asked.put(key(section, sentence.trim()), 0);
            }
        }
    }

    private static String key(int section, String sentence) {
        return section + "|" + sentence;
    }

    /** Where the sentence stands: under the promise itself, or among the terms; null, if it is no sentence of the document. */
    String find(int promise, String sentence) {
        String own = key(promise, sentence);
        String shared = key(TERMS, sentence);
        return asked.containsKey(own) ? own : asked.containsKey(shared) ? shared : null;
    }

    void count(String found) {
        asked.merge(found, 1, Integer::sum);
    }

    Map<String, Integer> sentences() {
        return asked;
    }
}
