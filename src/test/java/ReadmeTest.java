import java.lang.reflect.Method;
import java.nio.charset.StandardCharsets;
import java.nio.file.Files;
import java.nio.file.Path;
import java.util.regex.Matcher;
import java.util.regex.Pattern;

/** What README.md says of the class holds: its example answers so, and it names what a user must know. */
public final class ReadmeTest {
    private static final Checks CHECKS = new Checks("the readme");
    /** A line of the example: a call, and the number that its comment begins with. */
    private static final Pattern LINE = Pattern.compile("(?m)^x\\.(\\w+)\\(([^)]*)\\); +// (-?\\d+)\\b");
    private static final int LINES = 9;

    public static void main(String[] args) throws Exception {
        String text = Files.readString(Path.of("README.md"), StandardCharsets.UTF_8);
        String flowing = text.replaceAll("\\s+", " ");
        for (String needed : new String[] {"at most 512 calls", "../shared/DOC.md", "../shared/LANGUAGE.md", ".ci/run",
            "src/main/java/StripsFromAbove.java"}) {
            CHECKS.due("names " + needed, flowing.contains(needed) ? 1 : 0, 1);
        }
        StripsFromAbove x = new StripsFromAbove();
        int lines = 0;
        for (Matcher line = LINE.matcher(text); line.find();) {
            CHECKS.due(line.group(), answer(x, line.group(1), line.group(2)), Long.parseLong(line.group(3)));
            lines++;
        }
        CHECKS.due("lines of the example", lines, LINES);
        CHECKS.due("calls in the example", text.split("(?m)^x\\.", -1).length - 1, LINES);
        CHECKS.end();
    }

    private static long answer(StripsFromAbove x, String name, String arguments) throws Exception {
        String[] words = arguments.isEmpty() ? new String[0] : arguments.split(", ");
        Class<?>[] types = new Class<?>[words.length];
        Object[] values = new Object[words.length];
        for (int i = 0; i < words.length; i++) {
            types[i] = int.class;
            values[i] = words[i].startsWith("'") ? (int) words[i].charAt(1) : Integer.parseInt(words[i]);
        }
        Method method = StripsFromAbove.class.getMethod(name, types);
        return ((Number) method.invoke(x, values)).longValue();
    }
}
