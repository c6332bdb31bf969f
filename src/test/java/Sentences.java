import java.lang.reflect.InvocationTargetException;
import java.lang.reflect.Method;
import java.util.ArrayList;
import java.util.HashMap;
import java.util.HashSet;
import java.util.List;
import java.util.Map;
import java.util.Set;

/**
 * Sentences of the document, each with a run of calls of its own that answers otherwise if the sentence doesn't hold.
 *
 * <p>A run is written as lines:
 * <pre>
 *   strip(0, 12) = BAD        a call and the answer that is due
 *   plane(0, 0)               a call whose answer is looked at elsewhere
 *   0..11: planned(#) = #     a line once for each number
 *   new                       another object from here on
 *   text "sees 3;" = -107     the bytes are fed, then text() answers so (\n: byte 10)
 *   law "sees 3; ..."         the bytes are fed, text() takes them, force() makes them THE LAW
 *   strips 3 107              STRIPS, each as planned() tells it
 *   bytes 0: 1 2              a SHEET becomes a row of these (shorts, ints likewise)
 * </pre>
 *
 * <p>Behind each refused call, and behind the last one of each kind of question, the object is compared with one that
 * was not called so: neither may change anything.
 */
final class Sentences {
    private static final int MOST_CALLS = 512, MOST_PROBED = 270, PROBES = 6;
    private static final Map<String, Long> WORDS = Map.of("NONE", -1L, "BAD", -2L, "STATE", -3L, "FULL", -4L,
        "NO", -4611686018427387904L, "MIN", (long) Integer.MIN_VALUE, "MAX", (long) Integer.MAX_VALUE);
    private static final Set<String> QUESTIONS = Set.of("count", "mile", "asks", "told", "planned", "flight", "seen",
        "gap", "spare", "again", "apart", "begin", "seldom", "who", "when", "tuft", "judge", "winds", "kinds", "laws",
        "drawn", "odds", "taken");
    private static final Map<String, Method> METHODS = methods();

    private final String name;
    private final Checks checks;
    private int sentences;

    private record Call(String name, int[] values, Long due, String line) {
        boolean isQuestion() {
            return QUESTIONS.contains(name);
        }

        /** Whether the answer refuses a call that else would change something, and nothing is told to change by it. */
        boolean isRefused() {
            if (isQuestion() || due == null || due >= 0) {
                return false;
            }
            switch (name) {
                case "set": return due < -5;
                case "text": return due == -4;
                case "landBy": return due != -12;
                default: return true;
            }
        }
    }

    Sentences(String name) {
        this.name = name;
        this.checks = new Checks(name);
    }

    /** The answers of the run are as due, and what is asked or refused in it changes nothing. */
    void holds(String sentence, String run) {
        sentences++;
        int due = 0;
        for (List<Call> calls : objects(run)) {
            play(sentence, calls);
            for (Call call : calls) {
                due += call.due != null ? 1 : 0;
            }
        }
        checks.due(sentence + ": whether anything is due", due > 0 ? 1 : 0, 1);
    }

    void end() {
        System.out.println(name + ": " + sentences + " sentences");
        checks.end();
    }

    // ---- playing

    private void play(String sentence, List<Call> calls) {
        checks.due(sentence + ": calls on one object", Math.max(calls.size(), MOST_CALLS), MOST_CALLS);
        StripsFromAbove x = new StripsFromAbove();
        Map<String, Integer> lastQuestions = new HashMap<>();
        for (int i = 0; i < calls.size(); i++) {
            Call call = calls.get(i);
            long got = answer(x, call.name, call.values);
            if (call.due != null) {
                checks.due(sentence + ": " + call.line, got, call.due);
            }
            if (call.isQuestion()) {
                lastQuestions.put(call.name, i);
            }
        }
        Set<Integer> inVain = new HashSet<>(lastQuestions.values());
        for (int i = 0; i < calls.size(); i++) {
            if (calls.get(i).isRefused() || inVain.contains(i)) {
                changesNothing(sentence, calls.subList(0, i), calls.get(i));
            }
        }
    }

    private void changesNothing(String sentence, List<Call> ahead, Call call) {
        List<Call> changing = new ArrayList<>();
        for (Call c : ahead) {
            if (!c.isQuestion() && !c.isRefused()) {
                changing.add(c);
            }
        }
        checks.due(sentence + ": calls ahead of " + call.line, Math.max(changing.size(), MOST_CALLS - MOST_PROBED),
            MOST_CALLS - MOST_PROBED);
        for (int which = 0; which < PROBES; which++) {
            List<Long> with = probed(which, changing, call);
            List<Long> without = probed(which, changing, null);
            checks.due(sentence + ": " + call.line + " changes nothing, probe " + which, with.equals(without) ? 0 : 1, 0);
        }
    }

    private static List<Long> probed(int which, List<Call> ahead, Call call) {
        StripsFromAbove x = new StripsFromAbove();
        for (Call c : ahead) {
            answer(x, c.name, c.values);
        }
        if (call != null) {
            answer(x, call.name, call.values);
        }
        List<Long> found = new ArrayList<>();
        switch (which) {
            case 0: probeCounts(x, found); probeMiles(x, 0, found); break;
            case 1: probeMiles(x, 1, found); break;
            case 2: probeTexts(x, found); break;
            case 3: probeSheets(x, found); break;
            case 4: found.add((long) x.back()); probeCounts(x, found); probeMiles(x, 0, found); break;
            default: found.add((long) x.back()); probeMiles(x, 1, found); break;
        }
        return found;
    }

    // ---- probing

    private static void probeCounts(StripsFromAbove x, List<Long> found) {
        for (int what = 0; what < 8; what++) {
            found.add((long) x.count(what));
        }
        for (int p = 0; p < 4; p++) {
            for (int what = 0; what < 5; what++) {
                found.add((long) x.told(p, what));
            }
        }
        for (int k = 0; k < 12; k++) {
            found.add((long) x.planned(k));
        }
        for (int what = 0; what < 7; what++) {
            found.add((long) x.flight(what));
        }
    }

    private static void probeMiles(StripsFromAbove x, int what, List<Long> found) {
        for (int m = 0; m < 192; m++) {
            found.add((long) x.mile(m, what));
        }
    }

    /** What the TEXTS say, and how THE TAPE goes on. */
    private static void probeTexts(StripsFromAbove x, List<Long> found) {
        x.plane(0, 3);
        probeLaws(x, found);
        found.add((long) x.count(7));
        Checks.feed(x, " 1;drifts 2;frosts 3;");
        found.add((long) x.text());
        probeLaws(x, found);
    }

    private static void probeLaws(StripsFromAbove x, List<Long> found) {
        for (int t = 0; t < 6; t++) {
            found.add((long) x.force(t));
            for (int part = 0; part < 3; part++) {
                found.add((long) x.asks(part, 0, 0, 1));
                found.add((long) x.asks(part, 0, 100, 7));
            }
        }
    }

    /** Of each SHEET its sort, its size, and its numbers, as far as they are MILES and HILLS. */
    private static void probeSheets(StripsFromAbove x, List<Long> found) {
        for (int s = 0; s < 4; s++) {
            for (int sort = 0; sort < 3; sort++) {
                long answer = x.landBy(s, sort, 0, 0);
                found.add(answer);
                // No more of them, since an object answers 512 calls alone.
                for (int at = 0; at < 16 && answer == 0; at++) {
                    found.add((long) x.landBy(s, sort, at, 1));
                }
            }
        }
        probeMiles(x, 0, found);
    }

    // ---- calling

    private static Map<String, Method> methods() {
        Map<String, Method> found = new HashMap<>();
        for (Method method : StripsFromAbove.class.getDeclaredMethods()) {
            if (java.lang.reflect.Modifier.isPublic(method.getModifiers())) {
                found.put(method.getName(), method);
            }
        }
        return found;
    }

    private static long answer(StripsFromAbove x, String name, int[] values) {
        Object[] boxed = new Object[values.length];
        for (int i = 0; i < values.length; i++) {
            boxed[i] = values[i];
        }
        try {
            return ((Number) METHODS.get(name).invoke(x, boxed)).longValue();
        } catch (InvocationTargetException thrown) {
            thrown.getCause().printStackTrace(System.out);
            return Long.MAX_VALUE;
        } catch (IllegalAccessException wrong) {
            throw new IllegalStateException(wrong);
        }
    }

    // ---- reading

    private static List<List<Call>> objects(String run) {
        List<List<Call>> objects = new ArrayList<>();
        objects.add(new ArrayList<>());
        int texts = 1;
        for (String all : run.split("\n")) {
            String line = all.trim();
            List<Call> calls = objects.get(objects.size() - 1);
            if (line.equals("new")) {
                objects.add(new ArrayList<>());
                texts = 1;
            } else if (line.startsWith("law ")) {
                readText(line, calls);
                calls.add(new Call("text", new int[0], (long) texts, line));
                calls.add(new Call("force", new int[] {texts}, null, line));
                texts++;
            } else if (line.startsWith("text ")) {
                readText(line, calls);
                long due = number(line.substring(line.lastIndexOf('=') + 1));
                calls.add(new Call("text", new int[0], due, line));
                texts += due > 0 ? 1 : 0;
            } else if (!line.isEmpty()) {
                readLine(line, calls);
            }
        }
        return objects;
    }

    private static void readLine(String line, List<Call> calls) {
        String[] words = line.split("[ :]+");
        if (line.matches("-?\\d+\\.\\.\\d+: .*")) {
            String[] ends = words[0].split("\\.\\.");
            for (int i = Integer.parseInt(ends[0]); i <= Integer.parseInt(ends[1]); i++) {
                readLine(line.substring(line.indexOf(':') + 1).trim().replace("#", "" + i), calls);
            }
        } else if (words[0].equals("strips")) {
            for (int k = 1; k < words.length; k++) {
                int strip = Integer.parseInt(words[k]);
                calls.add(new Call("strip", new int[] {strip / 100, strip % 100}, null, line));
            }
        } else if (List.of("bytes", "shorts", "ints").contains(words[0])) {
            int s = Integer.parseInt(words[1]);
            int sort = List.of("bytes", "shorts", "ints").indexOf(words[0]);
            calls.add(new Call("sheet", new int[] {s, sort, words.length - 2}, null, line));
            for (int i = 2; i < words.length; i++) {
                calls.add(new Call("cell", new int[] {s, i - 2, Integer.parseInt(words[i])}, null, line));
            }
        } else {
            readCall(line, calls);
        }
    }

    private static void readCall(String line, List<Call> calls) {
        int open = line.indexOf('(');
        int close = line.indexOf(')');
        String inside = line.substring(open + 1, close).trim();
        String[] words = inside.isEmpty() ? new String[0] : inside.split(",");
        int[] values = new int[words.length];
        for (int i = 0; i < words.length; i++) {
            values[i] = (int) number(words[i]);
        }
        int is = line.indexOf('=', close);
        Long due = is < 0 ? null : (Long) number(line.substring(is + 1));
        calls.add(new Call(line.substring(0, open), values, due, line));
    }

    private static void readText(String line, List<Call> calls) {
        String text = line.substring(line.indexOf('"') + 1, line.lastIndexOf('"')).replace("\\n", "\n");
        for (int i = 0; i < text.length(); i += 5) {
            int[] values = {Math.min(5, text.length() - i), 0, 0, 0, 0, 0};
            for (int k = 0; k < values[0]; k++) {
                values[k + 1] = text.charAt(i + k);
            }
            calls.add(new Call("feed", values, null, line));
        }
    }

    private static long number(String word) {
        String w = word.trim();
        return WORDS.containsKey(w) ? WORDS.get(w) : Long.parseLong(w);
    }
}
