/** Counts and prints the answers of one test that are not the ones that are due. */
final class Checks {
    private final String name;
    private int right;
    private int wrong;

    Checks(String name) {
        this.name = name;
    }

    void due(String call, long got, long want) {
        if (got == want) {
            right++;
        } else {
            wrong++;
            System.out.println(name + ": " + call + " answered " + got + ", due is " + want);
        }
    }

    void same(String what, Object got, Object want) {
        if (got.equals(want)) {
            right++;
        } else {
            wrong++;
            System.out.println(name + ": " + what + " is " + got + ", due is " + want);
        }
    }

    void end() {
        System.out.println(name + ": " + right + " answers as due, " + wrong + " not");
        if (wrong != 0 || right == 0) {
            System.exit(1);
        }
    }

    /** Feeds a text to the tape, five bytes a call. */
    static void feed(StripsFromAbove x, String text) {
        for (int i = 0; i < text.length(); i += 5) {
            int[] five = new int[5];
            for (int k = 0; k < 5 && i + k < text.length(); k++) {
                five[k] = text.charAt(i + k);
            }
            x.feed(Math.min(5, text.length() - i), five[0], five[1], five[2], five[3], five[4]);
        }
    }

    /** Reads a text and makes it the law; what text() answered. */
    static int law(StripsFromAbove x, String text) {
        feed(x, text);
        int t = x.text();
        x.force(t);
        return t;
    }

    static StripsFromAbove withPlane(int kind, int more) {
        StripsFromAbove x = new StripsFromAbove();
        x.plane(kind, more);
        return x;
    }

    /** Strips, each told as planned() tells it. */
    static StripsFromAbove withStrips(StripsFromAbove x, int... strips) {
        for (int strip : strips) {
            x.strip(strip / 100, strip % 100);
        }
        return x;
    }

    /** A sheet of ints tells these. */
    static void tell(StripsFromAbove x, int s, int... numbers) {
        x.sheet(s, 2, numbers.length);
        for (int i = 0; i < numbers.length; i++) {
            x.cell(s, i, numbers[i]);
        }
    }
}
