import java.io.IOException;
import java.nio.charset.StandardCharsets;
import java.nio.file.Files;
import java.nio.file.Path;
import java.util.ArrayList;
import java.util.LinkedHashMap;
import java.util.List;
import java.util.Map;
import java.util.function.Supplier;

/**
 * Each sentence of the document with its cases under src/test/edges, asked of
 * the class and of the model; each refused call among them, made or left out,
 * leaves the same behind; and no sentence of the document is left out.
 */
public final class EdgesTest {
    private static final Due DUE = new Due();
    private static final Path FOLDER = Path.of("src/test/edges");
    private static final Path DOCUMENT = Path.of("../shared/DOC.md");
    private static final int CALLS = 512;

    public static void main(String[] args) throws IOException {
        Edges edges = Edges.read(FOLDER);
        for (Edges.Case c : edges.cases()) {
            List<Script.Made> made = run(c, new Calls(new KnotFair()), c.name());
            run(c, new Model(), "model, " + c.name());
            DUE.holds(c.name() + ": has calls, and no more than are promised", made.size() > 0 && made.size() <= CALLS);
            refusedCallsChangeNothing(c, made);
        }
        sentencesAreThoseOfTheDocument(edges);
        DUE.end();
    }

    private static List<Script.Made> run(Edges.Case c, Asked asked, String name) {
        Script script = new Script(asked, DUE, name);
        for (String line : c.lines()) {
            script.run(line);
        }
        return script.made();
    }

    private static void refusedCallsChangeNothing(Edges.Case c, List<Script.Made> made) {
        for (int k = 0; k < made.size(); k++) {
            Script.Made call = made.get(k);
            if (call.finding() == 0) {
                continue;
            }
            int at = k;
            Supplier<Asked> without = () -> replayed(made, at);
            Supplier<Asked> with = () -> replayed(made, at + 1);
            String what = c.name() + ": refused " + call.name() + ", call " + k;
            DUE.holds(what + ", changes nothing", Snapshot.of(without).equals(Snapshot.of(with)));
            int which = (int) (Due.BEYOND - call.finding());
            DUE.is(what + ", is counted", with.get().call("status", which), without.get().call("status", which) + 1);
            DUE.is(what + ", is counted once", with.get().call("status", -1), without.get().call("status", -1) + 1);
        }
    }

    private static Asked replayed(List<Script.Made> made, int n) {
        Asked x = new Calls(new KnotFair());
        for (Script.Made call : made.subList(0, n)) {
            x.call(call.name(), call.arguments());
        }
        return x;
    }

    private static void sentencesAreThoseOfTheDocument(Edges edges) throws IOException {
        if (!Files.isReadable(DOCUMENT)) {
            System.out.println("no " + DOCUMENT + " here: its sentences are not compared");
            return;
        }
        Map<String, List<String>> there = sections(Files.readString(DOCUMENT, StandardCharsets.UTF_8));
        for (Map.Entry<String, List<String>> section : there.entrySet()) {
            List<String> quoted = edges.sentences().getOrDefault(section.getKey(), List.of());
            for (String sentence : section.getValue()) {
                DUE.holds(section.getKey() + ": \"" + sentence + "\" has its cases",
                        quoted.contains(sentence) && edges.isAnswered(section.getKey(), sentence));
            }
            DUE.is(section.getKey() + ": sentences", quoted.size(), section.getValue().size());
        }
        DUE.is("sections", edges.sentences().size(), there.size());
    }

    /** The sentences of "Terms" and of each promise. */
    private static Map<String, List<String>> sections(String document) {
        Map<String, List<String>> all = new LinkedHashMap<>();
        List<String> sentences = new ArrayList<>();
        for (String line : document.split("\n")) {
            if (line.startsWith("## ")) {
                sentences = new ArrayList<>();
                if (line.startsWith("## Terms") || line.startsWith("## Promise")) {
                    all.put(line.substring(3), sentences);
                }
            } else if (!line.startsWith("```") && !line.startsWith("Ahead of the calls")) {
                sentences.addAll(sentencesOf(line));
            }
        }
        return all;
    }

    private static List<String> sentencesOf(String line) {
        List<String> all = new ArrayList<>();
        String text = line.strip().replaceFirst("^`[^`]*`: ", "").replaceFirst("^[0-9]\\. ", "");
        for (String sentence : text.split("(?<=[^.]\\.) ")) {
            if (!sentence.isBlank()) {
                all.add(sentence);
            }
        }
        return all;
    }
}
