import java.io.IOException;
import java.nio.charset.StandardCharsets;
import java.nio.file.Files;
import java.nio.file.Path;
import java.util.HashMap;
import java.util.Map;
import java.util.regex.Matcher;
import java.util.regex.Pattern;

/** What README.md shows is so: its examples are called, its calls are those of the face. */
public final class ReadmeTest {
    private static final Due DUE = new Due();
    private static final Pattern EXAMPLES = Pattern.compile("(?s)```java\n(.*?)```");
    private static final Pattern NEW = Pattern.compile("KnotFair fair = new KnotFair\\(\\);.*");
    private static final Pattern CALL =
            Pattern.compile("(?:int (\\w+) = )?fair\\.(\\w+)\\((.*?)\\); +// (-?\\d+)(?!\\w).*");
    private static final Pattern FINDING = Pattern.compile("\\| ([A-Z]+) \\| (-\\d+) \\|");
    private static final Pattern NAMED = Pattern.compile("`(\\w+)`(?= [`|])");

    public static void main(String[] args) throws IOException {
        String page = Files.readString(Path.of("README.md"), StandardCharsets.UTF_8);
        int examples = 0;
        for (Matcher m = EXAMPLES.matcher(page); m.find();) {
            runExample(m.group(1));
            examples++;
        }
        DUE.holds("there are examples", examples > 0);
        findingsAreTheDocuments(page);
        callsAreNamed(page);
        DUE.end();
    }

    private static void runExample(String lines) {
        Asked fair = null;
        Map<String, Long> names = new HashMap<>();
        for (String line : lines.split("\n")) {
            Matcher call = CALL.matcher(line);
            if (NEW.matcher(line).matches()) {
                fair = new Calls(new KnotFair());
            } else if (fair != null && call.matches()) {
                long answer = fair.call(call.group(2), arguments(call.group(3), names));
                DUE.is("README: " + line, answer, Long.parseLong(call.group(4)));
                if (call.group(1) != null) {
                    names.put(call.group(1), answer);
                }
            } else {
                DUE.holds("README: this test can read: " + line, false);
            }
        }
    }

    private static long[] arguments(String told, Map<String, Long> names) {
        if (told.isEmpty()) {
            return new long[0];
        }
        String[] parts = told.split(", ");
        long[] all = new long[parts.length];
        for (int k = 0; k < parts.length; k++) {
            all[k] = names.containsKey(parts[k]) ? names.get(parts[k]) : Long.decode(parts[k]);
        }
        return all;
    }

    private static void findingsAreTheDocuments(String page) {
        Map<String, String> told = new HashMap<>();
        for (Matcher m = FINDING.matcher(page); m.find();) {
            told.put(m.group(1), m.group(2));
        }
        String[] inOrder = {"BEYOND", "FULL", "KIND", "NONE", "STATE", "MISSING", "SIZE"};
        DUE.is("README: findings", told.size(), inOrder.length);
        for (int k = 0; k < inOrder.length; k++) {
            DUE.holds("README: " + inOrder[k], String.valueOf(Due.BEYOND - k).equals(told.get(inOrder[k])));
        }
    }

    /** Each once in the table of calls, and no other there. */
    private static void callsAreNamed(String page) {
        String table = page.substring(page.indexOf("| calls | for |"), page.indexOf("A fair can also be told"));
        Map<String, Integer> named = new HashMap<>();
        for (Matcher m = NAMED.matcher(table); m.find();) {
            named.merge(m.group(1), 1, Integer::sum);
            DUE.holds("README: " + m.group(1) + " is a call", Calls.isCall(m.group(1)));
        }
        for (String name : Calls.names()) {
            DUE.is("README: " + name + " is named", named.getOrDefault(name, 0), 1);
        }
    }
}
