import java.lang.reflect.InvocationTargetException;
import java.lang.reflect.Method;
import java.util.ArrayList;
import java.util.Arrays;
import java.util.List;
import java.util.Random;

/** Runs of calls by lots, of 512 calls each, that the class must answer as the oracle does, and never throw in. */
public final class OracleTest {
    private static final int RUNS = 400, CALLS = 512;
    private static final int[] WRONG = {
        -1, -2, -5, -11, 10, 12, 16, 24, 41, 100, 192, 193, 255, 256, 1000, 100000, 65536, 1 << 30,
        Integer.MAX_VALUE, Integer.MAX_VALUE - 1, Integer.MIN_VALUE, Integer.MIN_VALUE + 1,
    };
    /** Of each method the least and the most of each argument, and how often it is called. */
    private static final String[] CALL_SHAPES = {
        "count 0:7 *2", "set 0:2 -5:5 *4", "set 1:1 8:14 *2", "set 2:2 -1:3 *3", "land 0:191 0:0 0:9 *8", "land 0:191 1:1 0:1 *12",
        "mile 0:191 0:1 *2", "feed 1:5 0:255 0:255 0:255 0:255 0:255 *1", "text *1", "force 0:5 *3",
        "asks 0:2 0:3 0:191 0:200 *4", "plane 0:5 0:9 *3", "load 0:3 0:0 0:400 *2", "load 0:3 1:1 0:200 *2",
        "load 0:3 2:2 1:9 *2", "told 0:3 0:6 *2", "strip 0:1 0:11 *3", "strip 2:3 0:15 *3", "drop 0:11 *2",
        "planned 0:11 *1", "flight 0:6 *8", "seen 0:191 *3", "gap 0:100 *2", "spare 0:1 *1", "again 0:1 *1",
        "apart 0:1 0:9 0:192 0:1 *1", "begin 1:9 0:1 *1", "seldom 0:1 *1", "who 0:1 *2", "when 0:1 *1",
        "tuft 0:1 *1", "judge 0:3 0:15 *2", "winds 0:3 0:15 *2", "kinds 0:3 0:15 0:3 *2", "laws 0:3 0:15 *2",
        "film 0:3 0:15 *3", "drawn 0:99999 0:100 *1", "odds 0:99999 1:12 0:60 0:192 0:1 *1", "image *1", "back *1",
        "sheet 0:3 -1:2 0:40 *1", "sheet 0:3 0:2 12:12 *1", "cell 0:3 0:12 -300:300 *2", "cell 0:3 0:11 0:9 *3",
        "copy 0:3 0:12 0:3 0:12 0:12 *2", "landBy 0:3 0:2 0:11 0:6 *3", "taken 0:15 0:6 *2",
    };

    private final Random lots;
    private final Checks checks;
    private final List<String> history = new ArrayList<>();
    private StripsFromAbove real;
    private Oracle oracle;
    private boolean same;

    private OracleTest(long seed, Checks checks) {
        this.lots = new Random(seed);
        this.checks = checks;
    }

    public static void main(String[] args) throws Exception {
        Checks checks = new Checks("the oracle");
        long first = args.length > 0 ? Long.parseLong(args[0]) : 1;
        int runs = args.length > 1 ? Integer.parseInt(args[1]) : RUNS;
        for (long seed = first; seed < first + runs; seed++) {
            new OracleTest(seed, checks).run(seed);
        }
        checks.end();
    }

    private void run(long seed) throws Exception {
        real = new StripsFromAbove();
        oracle = new Oracle();
        same = true;
        List<String> bag = new ArrayList<>();
        for (String shape : CALL_SHAPES) {
            int often = Integer.parseInt(shape.substring(shape.indexOf('*') + 1));
            bag.addAll(java.util.Collections.nCopies(often, shape.substring(0, shape.indexOf('*')).trim()));
        }
        // Most runs begin with something that flies: else hardly anything would be covered.
        if (seed % 8 != 0) {
            call("plane", lots.nextInt(6), lots.nextInt(10));
            for (int k = lots.nextInt(7); k >= 0; k--) {
                int way = lots.nextInt(4);
                call("strip", way, lots.nextInt(way < 2 ? 12 : 16));
            }
        }
        while (history.size() < CALLS && same) {
            if (lots.nextInt(40) == 0) {
                feedText(TextLots.text(lots));
            } else {
                callBy(bag.get(lots.nextInt(bag.size())));
            }
        }
        if (!same) {
            System.out.println("seed " + seed + ", after: " + String.join(" ", history));
        }
    }

    private void feedText(String text) throws Exception {
        if (lots.nextInt(6) != 0) {
            call("text");
        }
        for (int i = 0; i < text.length() && history.size() < CALLS; i += 5) {
            int[] five = new int[6];
            five[0] = Math.min(5, text.length() - i);
            for (int k = 0; k < five[0]; k++) {
                five[k + 1] = text.charAt(i + k);
            }
            call("feed", five);
        }
        call("text");
        call("force", lots.nextInt(6));
    }

    private void callBy(String shape) throws Exception {
        String[] words = shape.split(" ");
        int[] values = new int[words.length - 1];
        boolean wrong = lots.nextInt(12) == 0;
        for (int i = 0; i < values.length; i++) {
            int colon = words[i + 1].indexOf(':');
            int least = Integer.parseInt(words[i + 1].substring(0, colon));
            int most = Integer.parseInt(words[i + 1].substring(colon + 1));
            values[i] = least + lots.nextInt(most - least + 1);
            if (wrong && lots.nextInt(values.length) == 0) {
                values[i] = lots.nextBoolean() ? WRONG[lots.nextInt(WRONG.length)] : lots.nextBoolean() ? least - 1 : most + 1;
            }
        }
        call(words[0], values);
    }

    private void call(String name, int... values) throws Exception {
        if (history.size() >= CALLS || !same) {
            return;
        }
        history.add(name + Arrays.toString(values).replace('[', '(').replace(']', ')'));
        long got = answer(real, name, values);
        long want = answer(oracle, name, values);
        same = got == want;
        checks.due(history.get(history.size() - 1), got, want);
    }

    private static long answer(Object object, String name, int[] values) throws Exception {
        Class<?>[] types = new Class<?>[values.length];
        Object[] boxed = new Object[values.length];
        for (int i = 0; i < values.length; i++) {
            types[i] = int.class;
            boxed[i] = values[i];
        }
        Method method = object.getClass().getMethod(name, types);
        method.setAccessible(true);
        try {
            return ((Number) method.invoke(object, boxed)).longValue();
        } catch (InvocationTargetException thrown) {
            thrown.getCause().printStackTrace(System.out);
            return object instanceof Oracle ? Long.MIN_VALUE : Long.MAX_VALUE;
        }
    }
}
