import java.nio.charset.StandardCharsets;
import java.nio.file.Files;
import java.nio.file.Path;
import java.util.List;
import java.util.regex.Matcher;
import java.util.regex.Pattern;

/** What of LANGUAGE.md can be seen in the text of the class. */
public final class RulesTest {
    private static final Checks CHECKS = new Checks("the rules");
    /** What must not stand there, comments and texts left out. */
    private static final List<String> FORBIDDEN = List.of(
        "->", "::", "\\bpackage\\b", "\\bfinally\\b", "\\bsynchronized\\b", "\\bassert\\b", "\\bcatch\\b", "\\bthrows?\\b",
        "\\bvar\\b", "\\bObject\\b", "\\bMath\\.\\w+Exact\\b", "\\bfloat\\b", "\\bdouble\\b", "\\bnative\\b", "\\bvolatile\\b",
        "@", "\\bequals\\b", "\\bhashCode\\b", "\\btoString\\b", "\\bSystem\\.(?!arraycopy\\b)", "\\bArrays\\.(?!fill\\b)",
        "\\bThread\\b", "\\bstatic\\s*\\{", "\\.\\.\\.");
    private static final int MOST_LINES_OF_A_METHOD = 60, MOST_CLASSES = 12, MOST_PARAMETERS = 7;

    public static void main(String[] args) throws Exception {
        String text = Files.readString(Path.of("src/main/java/StripsFromAbove.java"), StandardCharsets.ISO_8859_1);
        for (char c : text.toCharArray()) {
            if (c > 127) {
                CHECKS.due("a sign above 127", c, 127);
            }
        }
        String code = text.replaceAll("(?s)/\\*.*?\\*/", "").replaceAll("//[^\n]*", "").replaceAll("\"[^\"\n]*\"", "\"\"");
        for (String forbidden : FORBIDDEN) {
            CHECKS.due("how often there is " + forbidden, count(code, forbidden), 0);
        }
        CHECKS.due("imports", count(code, "\\bimport\\b"), 1);
        CHECKS.due("import of Arrays", count(code, "import java\\.util\\.Arrays;"), 1);
        CHECKS.due("few classes", Math.max(MOST_CLASSES, count(code, "\\bclass\\b")), MOST_CLASSES);
        CHECKS.due("fields of classes are static finals alone", count(code, "\\bstatic (?!final)[\\w\\[\\]]+ \\w+( =|;)"), 0);
        shortMethods(code);
        CHECKS.end();
    }

    private static int count(String code, String pattern) {
        int found = 0;
        for (Matcher m = Pattern.compile(pattern).matcher(code); m.find();) {
            found++;
        }
        return found;
    }

    private static void shortMethods(String code) {
        String[] lines = code.split("\n");
        for (int i = 0; i < lines.length; i++) {
            Matcher head = Pattern.compile("^( {4}| {8})(?! )[\\w\\[\\] ]+ (\\w+)\\(([^)]*)\\) \\{$").matcher(lines[i]);
            if (!head.matches()) {
                continue;
            }
            int end = i;
            while (end < lines.length && !lines[end].equals(head.group(1) + "}")) {
                end++;
            }
            CHECKS.due(head.group(2) + " is short", Math.max(end - i + 1, MOST_LINES_OF_A_METHOD), MOST_LINES_OF_A_METHOD);
            int parameters = head.group(3).split(",").length;
            CHECKS.due(head.group(2) + " takes few", Math.max(parameters, MOST_PARAMETERS), MOST_PARAMETERS);
        }
    }
}
