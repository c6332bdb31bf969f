/** Each sentence that names a boundary case: told pictures; promises 27 to 31. */
public final class PictureSentencesTest {
    private static final Sentences THE = new Sentences("sentences of told pictures");
    private static final String NARROW = "law \"sees 0;drifts 0;frosts 0;\"\n";
    private static final String NOTHING = " 0 0 0 0 0 0 0 0 0 0 0 0\n";

    public static void main(String[] args) {
        refusals();
        refusalsInOrder();
        judge();
        winds();
        kinds();
        kindsRefuses();
        more();
        every();
        planes();
        laws();
        film();
        filmRefuses();
        THE.end();
    }

    /** SHEET 0 tells of one COLUMN so often, of the others nothing. */
    private static String tells(int column, int often) {
        StringBuilder run = new StringBuilder("ints 0:");
        for (int x = 0; x < 12; x++) {
            run.append(x == column ? " " + often : " 0");
        }
        return run.append('\n').toString();
    }

    private static void refusals() {
        int promise = 27;
        String ready = "plane(0, 0)\nstrips 3\nsheet(1, 0, 12)\nsheet(2, 1, 12)\nsheet(3, 2, 12)\n";
        for (String call : new String[] {"judge(#)", "winds(#)", "kinds(#, 0)", "laws(#)"}) {
            THE.holds(promise + ": BAD: SHEET", ready + asked(call, "-1, 0", "BAD") + asked(call, "4, 0", "BAD")
                + asked(call, "MIN, 0", "BAD") + asked(call, "MAX, 0", "BAD"));
            THE.holds(promise + ": -11: a SHEET that is missing", ready + asked(call, "0, 0", "-11") + "sheet(3, -1, 0)\n"
                + asked(call, "3, 0", "-11"));
            for (int n : new int[] {0, 11, 13, 40}) {
                THE.holds(promise + ": BAD: it doesn't tell 12, but " + n, ready + "sheet(0, 2, " + n + ")\n" + asked(call, "0, 0", "BAD"));
            }
            THE.holds(promise + ": -5: no such ROW", ready + asked(call, "1, -1", "-5") + asked(call, "1, 16", "-5")
                + asked(call, "2, MIN", "-5") + asked(call, "3, MAX", "-5"));
            promise++;
        }
    }

    private static String asked(String call, String sheetAndRow, String due) {
        return call.replace("#", sheetAndRow) + " = " + due + "\n";
    }

    private static void refusalsInOrder() {
        int promise = 27;
        for (String call : new String[] {"judge(#)", "winds(#)", "kinds(#, 4)", "laws(#)"}) {
            // None flies, so that kinds() has STATE behind all others, and -7 ahead of it.
            THE.holds(promise + ": of BAD, -11, BAD, -5 the first one told", "sheet(2, 2, 11)\nsheet(3, 2, 12)\n"
                + asked(call, "4, 16", "BAD") + asked(call, "-1, -1", "BAD") + asked(call, "0, 16", "-11") + asked(call, "0, -1", "-11")
                + asked(call, "2, 16", "BAD") + asked(call, "2, -1", "BAD") + asked(call, "3, 16", "-5") + asked(call, "3, -1", "-5"));
            promise++;
        }
        THE.holds("29: of -5, -7, STATE the first one told", """
            sheet(0, 2, 12)
            kinds(0, 16, 4) = -5
            kinds(0, 15, 4) = -7
            kinds(0, 15, -1) = -7
            kinds(0, 15, 3) = STATE
            """);
    }

    // ---- promise 27

    private static void judge() {
        String one = "plane(0, 0)\n" + NARROW;
        THE.holds("27: the first COLUMN that is otherwise: 0", one + "strips 0 11\n" + tells(11, 1) + "judge(0, 0) = 0\n");
        THE.holds("27: the first COLUMN that is otherwise: 11", one + "strips 0 11\n" + tells(0, 1) + "judge(0, 0) = 11\n");
        THE.holds("27: -1: none", one + "strips 0\n" + tells(0, 1) + "judge(0, 0) = NONE\njudge(0, 15) = NONE\n" + tells(0, 2)
            + "judge(0, 1) = NONE\njudge(0, 13) = NONE\n");
        THE.holds("27: the MILE of a ROW, 0 .. 15", one + "load(0, 1, 1)\nstrips 0\n" + tells(0, 1)
            + "judge(0, 0) = NONE\njudge(0, 1) = NONE\n2..15: judge(0, #) = 0\ndrop(0)\nstrips 100\n"
            + "judge(0, 15) = NONE\njudge(0, 14) = NONE\n0..13: judge(0, #) = 0\n");
        THE.holds("27: how often: once is not twice, nor nothing, nor below it", one + "strips 0\n" + tells(0, 2) + "judge(0, 0) = 0\n"
            + tells(0, 0) + "judge(0, 0) = 0\n" + tells(0, -1) + "judge(0, 0) = 0\n" + tells(1, -1) + "judge(0, 0) = 0\n");
        THE.holds("27: a SHEET of bytes, shorts, ints", one + "strips 0\nbytes 1: 257 0 0 0 0 0 0 0 0 0 0 256\njudge(1, 0) = NONE\n"
            + "shorts 2: 65537 0 0 0 0 0 0 0 0 0 0 65536\njudge(2, 0) = NONE\nshorts 2: 257 0 0 0 0 0 0 0 0 0 0 0\njudge(2, 0) = 0\n"
            + tells(0, 65537) + "judge(0, 0) = 0\n");
        THE.holds("27: a MILE under a CLOUD", one + "strips 0\nland(0, 1, 1)\n" + tells(0, 1) + "judge(0, 0) = 0\n" + tells(0, 0)
            + "judge(0, 0) = NONE\n");
        THE.holds("27: none flies", "strips 0\nints 0:" + NOTHING + "0..15: judge(0, #) = NONE\n" + tells(11, 1) + "judge(0, 15) = 11\n");
    }

    // ---- promise 28

    private static void winds() {
        String borne = "plane(0, 0)\nlaw \"sees 0;drifts wind;frosts 0;\"\nload(0, 2, 5)\nstrips 6\n";
        THE.holds("28: bit 0: WIND -5", borne + tells(2, 1) + "winds(0, 15) = 1\n");
        THE.holds("28: bit 10: WIND 5", borne + tells(10, 1) + "winds(0, 15) = 1024\n");
        THE.holds("28: bits 4, 5, 6: WINDS -1, 0, 1, by which one is not borne aside", borne + tells(6, 1) + "winds(0, 15) = 112\n");
        THE.holds("28: all WINDS", borne + tells(0, 0) + "winds(0, 2) = 2047\n");
        THE.holds("28: no WIND", borne + tells(0, 1) + "winds(0, 15) = 0\n");
        THE.holds("28: were it so: by each WIND that is now", borne + tells(10, 1)
            + "set(0, -5) = 0\nwinds(0, 15) = 1024\nset(0, 5)\nwinds(0, 15) = 1024\ncount(2) = 5\n");
        THE.holds("28: none flies", tells(0, 0) + "winds(0, 0) = 2047\nwinds(0, 15) = 2047\n" + tells(11, 1) + "winds(0, 15) = 0\n");
    }

    // ---- promise 29

    private static void kinds() {
        String borne = "plane(2, 9)\nlaw \"sees 0;drifts 4;frosts 0;\"\nload(0, 2, 5)\nstrips 3\n";
        THE.holds("29: KINDS, bit 5", borne + tells(10, 1) + "kinds(0, 15, 0) = 32\n");
        THE.holds("29: KINDS, bit 0", borne + "load(0, 0, 31)\n" + tells(6, 1) + "kinds(0, 15, 0) = 1\n");
        THE.holds("29: KINDS, bits 0 .. 5", borne + tells(0, 0) + "kinds(0, 2, 0) = 63\n");
        THE.holds("29: KINDS, none", borne + tells(11, 1) + "kinds(0, 15, 0) = 0\ntold(0, 0) = 2\n");
        THE.holds("29: KINDS of WHO FLIES, with its MORE", "plane(0, 0)\nplane(0, 9)\n" + "law \"sees 0;drifts 4;frosts 0;\"\n"
            + "load(0, 2, 5)\nload(1, 2, 5)\nstrips 3\n" + tells(10, 1)
            + "kinds(0, 15, 0) = 0\nset(2, 1)\nkinds(0, 15, 0) = 32\n");
    }

    private static void kindsRefuses() {
        THE.holds("29: -7: sort", "plane(0, 0)\nints 0:" + NOTHING + """
            kinds(0, 0, -1) = -7
            kinds(0, 0, 4) = -7
            kinds(0, 0, MIN) = -7
            kinds(0, 0, MAX) = -7
            """);
        THE.holds("29: STATE: none flies", "ints 0:" + NOTHING + """
            0..3: kinds(0, 0, #) = STATE
            plane(0, 0)
            kinds(0, 0, 0) = 63
            set(2, -1)
            0..3: kinds(0, 0, #) = STATE
            """);
    }

    private static void more() {
        String old = "plane(5, 4)\nlaw \"sees 0;drifts 4;frosts 0;\"\nload(0, 2, 5)\nstrips 3\n";
        THE.holds("29: MORE, bit 9", old + tells(10, 1) + "kinds(0, 15, 1) = 512\n");
        THE.holds("29: MORE, bit 0", "plane(5, 4)\nlaw \"sees 0;drifts 9;frosts 0;\"\nload(0, 2, 5)\nstrips 0\n" + tells(8, 1)
            + "kinds(0, 15, 1) = 1\n");
        THE.holds("29: MORE, bits 0 .. 9", old + tells(0, 0) + "kinds(0, 2, 1) = 1023\n");
        THE.holds("29: MORE, none", old + tells(11, 1) + "kinds(0, 15, 1) = 0\ntold(0, 1) = 4\n");
    }

    private static void every() {
        String one = "plane(0, 0)\n" + NARROW + "load(0, 2, 4)\nstrips 3\n";
        THE.holds("29: EVERY, bit 1", one + tells(3, 2) + "kinds(0, 0, 2) = 2\n");
        THE.holds("29: EVERY, bit 9", one + "load(0, 1, 2)\n" + tells(3, 1) + "kinds(0, 10, 2) = 512\n");
        THE.holds("29: EVERY, bits 1 .. 9", one + "set(1, 9)\n" + tells(0, 0) + "kinds(0, 0, 2) = 1022\n");
        THE.holds("29: EVERY, none", one + tells(3, 4) + "kinds(0, 1, 2) = 0\ntold(0, 4) = 4\n");
    }

    private static void planes() {
        String four = "0..3: plane(0, 0)\n" + NARROW + "strips 3\n";
        THE.holds("29: PLANES, bit 3", four + "0..2: load(#, 1, 0)\n" + tells(3, 1) + "kinds(0, 0, 3) = 8\ncount(4) = 0\n");
        THE.holds("29: PLANES, bit 0", four + "1..3: load(#, 0, 0)\nset(2, 2)\n" + tells(3, 1) + "kinds(0, 0, 3) = 1\ncount(4) = 2\n");
        THE.holds("29: PLANES, all four", four + tells(3, 1) + "kinds(0, 0, 3) = 15\n");
        THE.holds("29: PLANES, as many as there are", "plane(0, 0)\nints 0:" + NOTHING + "kinds(0, 0, 3) = 1\nplane(5, 5)\nkinds(0, 0, 3) = 3\n"
            + "plane(5, 5)\nkinds(0, 0, 3) = 7\nplane(5, 5)\nkinds(0, 0, 3) = 15\n");
        THE.holds("29: PLANES, none", four + tells(3, 2) + "kinds(0, 0, 3) = 0\n");
        THE.holds("29: PLANES, none that is none since back()", "plane(0, 0)\n" + NARROW + "strips 3\nimage()\nplane(0, 0)\n" + tells(3, 1)
            + "kinds(0, 0, 3) = 3\nback() = 1\nkinds(0, 0, 3) = 1\n");
    }

    // ---- promise 30

    private static void laws() {
        String six = "plane(0, 0)\n" + NARROW.repeat(4) + "strips 3\n";
        THE.holds("30: TEXTS, bit 5", six + "law \"sees 1;drifts 0;frosts 0;\"\nforce(2)\nints 0: 0 0 1 1 1 0 0 0 0 0 0 0\n"
            + "laws(0, 0) = 32\ncount(6) = 2\n");
        THE.holds("30: TEXTS, bit 0", six + NARROW + "ints 0: 1 1 1 1 1 1 1 0 0 0 0 0\nlaws(0, 0) = 1\n");
        THE.holds("30: TEXTS, all six", six + NARROW + "set(1, 9)\nints 0:" + NOTHING + "laws(0, 0) = 63\n");
        THE.holds("30: TEXTS, none", six + NARROW + tells(3, 2) + "laws(0, 0) = 0\n");
        THE.holds("30: TEXTS, as many as there are", "ints 0:" + NOTHING + "laws(0, 0) = 1\n" + NARROW + "laws(0, 0) = 3\n"
            + "text \"sees\" = -104\nlaws(0, 0) = 3\n");
    }

    // ---- promise 31

    private static void film() {
        String one = "plane(0, 0)\n" + NARROW;
        THE.holds("31: how many MILES of the ROW are COVERED: all", one + "strips 200\nfilm(0, 0) = 12\njudge(0, 0) = NONE\n");
        THE.holds("31: how many MILES of the ROW are COVERED: none", one + "strips 200\nfilm(0, 15) = 0\njudge(0, 15) = NONE\n"
            + "judge(0, 0) = 0\n");
        THE.holds("31: how many MILES, not how often", one + "strips 3 3\nfilm(0, 1) = 1\n" + tells(3, 4).replace("ints 0", "ints 1")
            + "judge(1, 1) = NONE\njudge(0, 1) = NONE\n");
        THE.holds("31: ROWS 0 and 15", one + "load(0, 1, 1)\nstrips 103\nfilm(0, 15) = 1\nfilm(1, 0) = 0\njudge(0, 15) = NONE\n"
            + "judge(1, 0) = NONE\njudge(1, 15) = 3\n");
        THE.holds("31: COLUMNS 0 .. 11 of the ROW alone", one + "strips 0\nfilm(0, 0) = 1\nfilm(0, 15) = 1\ndrop(0)\nstrips 11\nfilm(0, 1) = 1\n"
            + "film(0, 15) = 1\njudge(0, 15) = NONE\n");
        THE.holds("31: a MILE under a CLOUD", one + "strips 200\nland(0, 1, 1)\nland(11, 1, 1)\nfilm(0, 0) = 10\njudge(0, 0) = NONE\n");
        THE.holds("31: a SHEET truly becomes that: 12 shorts", one + """
            strips 200
            film(3, 0) = 12
            cell(3, 11, 1) = 1
            cell(3, 12, 1) = -12
            landBy(3, 1, 0, 0) = 0
            landBy(3, 0, 0, 0) = -13
            landBy(3, 2, 0, 0) = -13
            """);
        THE.holds("31: a SHEET of another sort and size becomes that", one + """
            strips 200
            sheet(0, 0, 40)
            film(0, 0) = 12
            cell(0, 12, 1) = -12
            landBy(0, 1, 0, 0) = 0
            sheet(1, 2, 0)
            film(1, 0) = 12
            cell(1, 11, 1) = 1
            landBy(1, 2, 0, 0) = -13
            """);
        THE.holds("31: none flies", "strips 200\nfilm(0, 0) = 0\njudge(0, 0) = NONE\ncell(0, 11, 0) = 1\n");
    }

    private static void filmRefuses() {
        THE.holds("31: BAD: SHEET", """
            plane(0, 0)
            strips 3
            film(-1, 0) = BAD
            film(4, 0) = BAD
            film(MIN, 0) = BAD
            film(MAX, 0) = BAD
            """);
        THE.holds("31: -5: no such ROW; a SHEET that is missing stays so", """
            plane(0, 0)
            strips 3
            film(0, -1) = -5
            film(0, 16) = -5
            film(0, MIN) = -5
            film(0, MAX) = -5
            cell(0, 0, 0) = -11
            """);
        THE.holds("31: -5: no such ROW; a SHEET stays as it is", """
            plane(0, 0)
            strips 3
            ints 0: 5 7
            film(0, 16) = -5
            cell(0, 2, 0) = -12
            landBy(0, 2, 0, 1) = 1
            mile(5, 0) = 7
            """);
        THE.holds("31: of BAD, -5 the first one told", """
            film(4, 16) = BAD
            film(-1, -1) = BAD
            """);
    }
}
