import java.io.IOException;
import java.nio.charset.StandardCharsets;
import java.nio.file.Files;
import java.nio.file.Path;
import java.util.regex.Matcher;
import java.util.regex.Pattern;

/** The rules of LANGUAGE.md that a look at the source can tell. */
public final class RulesTest {
    private static final Due DUE = new Due();
    private static final String[] RULED_OUT = {
        "\\bthrow\\b", "\\bthrows\\b", "\\btry\\b", "\\bcatch\\b", "\\bfinally\\b", "\\bsynchronized\\b", "\\bassert\\b",
        "(?m)^(?!.*\\b(case|default)\\b).*->", "::", "\\bpackage\\b", "\\bimport (?!java\\.util\\.)", "\\bprotected\\b",
        "Exact\\b", "\\bObject\\b", "\\bThread\\b", "\\bhashCode\\b", "\\bfor \\(;;\\)",
        "while \\(true\\)", "System\\.(?!arraycopy)", "\\bstatic \\{"};

    public static void main(String[] args) throws IOException {
        Path path = Path.of("src/main/java/KnotFair.java");
        String source = Files.readString(path, StandardCharsets.US_ASCII);
        String code = source.replaceAll("(?s)/\\*.*?\\*/", "").replaceAll("//[^\n]*", "");
        for (String rule : RULED_OUT) {
            DUE.holds("no " + rule, !Pattern.compile(rule).matcher(code).find());
        }
        DUE.holds("at most twelve classes", count(code, "\\bclass\\b") <= 12);
        DUE.holds("static fields are final", count(code, "\\bstatic (?!final)[\\w\\[\\]]+ \\w+( =|;)") == 0);
        DUE.holds("a constructor hands out nothing of what it makes",
                count(code, "\\bthis[,)]") + count(code, "private [^\n=]* = new \\w+\\([a-z]") == 0);
        DUE.holds("methods stay short", longestMethod(code) <= 60);
        DUE.end();
    }

    private static int count(String code, String what) {
        int n = 0;
        for (Matcher m = Pattern.compile(what).matcher(code); m.find();) {
            n++;
        }
        return n;
    }

    /** By the layout of the file: a method's closing brace stands in its own column. */
    private static int longestMethod(String code) {
        int longest = 0;
        Pattern method = Pattern.compile("(?m)^( +)[^\\n;=]*\\) \\{\\n((?:(?!\\1\\}).*\\n)*)\\1\\}");
        for (Matcher m = method.matcher(code); m.find();) {
            longest = Math.max(longest, count(m.group(2), "\n"));
        }
        return longest;
    }
}
