import java.io.IOException;
import java.nio.charset.StandardCharsets;
import java.nio.file.Files;
import java.nio.file.Path;
import java.util.ArrayList;
import java.util.LinkedHashMap;
import java.util.List;
import java.util.Map;
import java.util.stream.Collectors;
import java.util.stream.Stream;

/**
 * What stands under src/test/edges: "## " names a section of the document,
 * "> " quotes a sentence of it, "- " begins a case of that sentence on a new
 * object, lines set in are its calls. A sentence that has no case says why in
 * a line of its own.
 */
final class Edges {
    record Case(String section, String sentence, String title, List<String> lines) {
        String name() {
            return section + ", \"" + (sentence.length() > 60 ? sentence.substring(0, 60) + ".." : sentence) + "\", "
                    + title;
        }
    }

    private final List<Case> cases = new ArrayList<>();
    private final Map<String, List<String>> sentences = new LinkedHashMap<>();
    private String section = "";
    private String sentence = "";
    private final List<String> excused = new ArrayList<>();
    private Case latest = null;

    static Edges read(Path folder) throws IOException {
        Edges edges = new Edges();
        List<Path> files;
        try (Stream<Path> all = Files.list(folder)) {
            files = all.filter(f -> f.toString().endsWith(".txt")).sorted().collect(Collectors.toList());
        }
        for (Path file : files) {
            for (String line : Files.readAllLines(file, StandardCharsets.US_ASCII)) {
                edges.take(line);
            }
        }
        return edges;
    }

    private void take(String line) {
        if (line.startsWith("## ")) {
            section = line.substring(3);
            sentences.putIfAbsent(section, new ArrayList<>());
        } else if (line.startsWith("> ")) {
            sentence = line.substring(2);
            sentences.get(section).add(sentence);
        } else if (line.startsWith("- ")) {
            latest = new Case(section, sentence, line.substring(2), new ArrayList<>());
            cases.add(latest);
        } else if (line.startsWith("  ")) {
            latest.lines().add(line);
        } else if (!line.isBlank()) {
            excused.add(sentence);
        }
    }

    /** Whether a sentence has a case, or a line that says why it has none. */
    boolean isAnswered(String inSection, String quoted) {
        return excused.contains(quoted)
                || cases.stream().anyMatch(c -> c.section().equals(inSection) && c.sentence().equals(quoted));
    }

    List<Case> cases() {
        return cases;
    }

    /** The sentences quoted, by section, in their order. */
    Map<String, List<String>> sentences() {
        return sentences;
    }
}
