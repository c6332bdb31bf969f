/** Each sentence that names a boundary case: KINDS, PLANES, STRIPS; promises 10 to 15. */
public final class PlaneSentencesTest {
    private static final Sentences THE = new Sentences("sentences of planes and strips");

    public static void main(String[] args) {
        thePlane();
        theQuick();
        theHigh();
        theSteady();
        theWide();
        theOld();
        plane();
        load();
        loadRefuses();
        told();
        strip();
        drop();
        planned();
        THE.end();
    }

    // ---- helpers

    /** Over ROW 0 one SEES so far: {MORE, what the text says, how far}. */
    private static void sees(String sentence, int kind, int[]... rows) {
        StringBuilder run = new StringBuilder();
        for (int[] r : rows) {
            run.append("new\nplane(").append(kind).append(", ").append(r[0]).append(")\nlaw \"sees ").append(r[1]);
            run.append(";drifts 0;frosts 0;\"\nload(0, 2, 9)\nstrips 200\n");
            // COLUMN 0 is covered by the click over it, and by no other.
            for (int row = 0; row < 16; row++) {
                run.append("seen(").append(12 * row).append(") = ").append(row <= r[2] ? 1 : 0).append('\n');
            }
        }
        THE.holds(sentence, run.toString());
    }

    /** Over ROW 15 one is borne aside by DRIFTS times 15 by 16: {MORE, what the text says, DRIFTS}. */
    private static void drifts(String sentence, int kind, int[]... rows) {
        StringBuilder run = new StringBuilder();
        for (int[] r : rows) {
            int from = r[2] > 0 ? 1 : 10;
            int end = from + r[2] * 15 / 16;
            int aside = kind == 2 ? 1 : 0;
            run.append("new\nplane(").append(kind).append(", ").append(r[0]).append(")\nlaw \"sees 0;drifts ").append(r[1]);
            run.append(";frosts 0;\"\nload(0, 2, 5)\nstrips ").append(from).append('\n');
            for (int column = 0; column < 12; column++) {
                int often = column >= end - aside && column <= end + aside ? 1 : 0;
                run.append("seen(").append(180 + column).append(") = ").append(often).append('\n');
            }
        }
        THE.holds(sentence, run.toString());
    }

    /** {MORE, minutes a mile takes, a TURN takes}. */
    private static void minutes(String sentence, int kind, int[]... rows) {
        StringBuilder run = new StringBuilder();
        for (int[] r : rows) {
            run.append("new\nplane(").append(kind).append(", ").append(r[0]).append(")\nstrips 0 0\n");
            run.append("told(0, 5) = ").append(r[1]).append("\ntold(0, 6) = ").append(r[2]).append('\n');
            run.append("flight(5) = ").append(32 * r[1] + r[2]).append('\n');
        }
        THE.holds(sentence, run.toString());
    }

    private static int[] of(int... numbers) {
        return numbers;
    }

    // ---- KINDS

    private static void thePlane() {
        sees("0 PLANE: SEES that", 0, of(0, 0, 0), of(9, 0, 0), of(0, 9, 9), of(9, 9, 9), of(9, 1, 1));
        drifts("0 PLANE: DRIFTS that", 0, of(0, 0, 0), of(9, 9, 9), of(9, -9, -9), of(0, 9, 9), of(9, 2, 2), of(9, -2, -2));
        minutes("0 PLANE: a mile takes 1, a TURN 4", 0, of(0, 1, 4), of(9, 1, 4));
    }

    private static void theQuick() {
        drifts("1 QUICK: DRIFTS half (cut)", 1, of(0, 9, 4), of(0, 8, 4), of(0, 7, 3), of(0, 5, 2), of(0, 1, 0), of(0, 0, 0),
            of(9, 9, 4), of(9, 4, 2));
        drifts("1 QUICK: DRIFTS half (cut), below 0, too", 1, of(0, -9, -4), of(0, -8, -4), of(0, -7, -3), of(0, -5, -2), of(0, -3, -1),
            of(0, -1, 0), of(9, -9, -4), of(9, -4, -2));
        minutes("1 QUICK: a TURN 2 and MORE by 3 (cut) more", 1, of(0, 1, 6), of(2, 1, 6), of(3, 1, 7), of(5, 1, 7), of(6, 1, 8), of(8, 1, 8),
            of(9, 1, 9));
        sees("1 QUICK: whatever isn't told is as of a PLANE", 1, of(0, 0, 0), of(9, 9, 9), of(9, 1, 1));
    }

    private static void theHigh() {
        sees("2 HIGH: SEES 1 more", 2, of(0, 0, 1), of(9, 0, 1), of(0, 9, 10), of(9, 9, 10));
        minutes("2 HIGH: miles and TURNS twice as long", 2, of(0, 2, 8), of(9, 2, 8));
        drifts("2 HIGH: whatever isn't told is as of a PLANE", 2, of(0, 9, 9), of(9, -9, -9), of(9, 2, 2), of(9, 0, 0));
    }

    private static void theSteady() {
        drifts("3 STEADY: the text saying above 0, MORE by 2 (cut) less than a QUICK", 3, of(0, 9, 4), of(1, 9, 4), of(2, 9, 3), of(3, 9, 3),
            of(4, 9, 2), of(5, 8, 2), of(0, 4, 2));
        drifts("3 STEADY: 0 at least", 3, of(8, 9, 0), of(9, 9, 0), of(9, 8, 0), of(9, 2, 0), of(9, 4, 0), of(9, 6, 0), of(9, 1, 0));
        drifts("3 STEADY: else so much more than it", 3, of(0, -9, -4), of(1, -9, -4), of(2, -9, -3), of(3, -9, -3), of(4, -9, -2),
            of(5, -8, -2), of(0, -4, -2));
        drifts("3 STEADY: 0 at most", 3, of(8, -9, 0), of(9, -9, 0), of(9, -8, 0), of(9, -2, 0), of(9, -4, 0), of(9, -6, 0), of(9, -1, 0));
        drifts("3 STEADY: the text saying 0 is not above 0", 3, of(9, 0, 0), of(0, 0, 0), of(4, 0, 0));
        minutes("3 STEADY: whatever isn't told is as of a QUICK", 3, of(0, 1, 6), of(2, 1, 6), of(3, 1, 7), of(9, 1, 9));
        sees("3 STEADY: SEES as of a PLANE", 3, of(0, 0, 0), of(9, 9, 9));
    }

    private static void theWide() {
        sees("4 WIDE: SEES 0, if the text says 0", 4, of(0, 0, 0), of(4, 0, 0), of(9, 0, 0));
        sees("4 WIDE: SEES 0, if the text says below 0, which is its bound", 4, of(0, -1, 0), of(9, -9, 0));
        sees("4 WIDE: else MORE by 4 (cut) more than a HIGH", 4, of(0, 1, 2), of(3, 1, 2), of(4, 1, 3), of(7, 1, 3), of(8, 1, 4), of(9, 1, 4),
            of(9, 5, 8));
        sees("4 WIDE: the farthest that any SEES", 4, of(9, 9, 12), of(8, 9, 12), of(7, 9, 11));
        minutes("4 WIDE: whatever isn't told is as of a HIGH", 4, of(0, 2, 8), of(9, 2, 8));
        drifts("4 WIDE: DRIFTS as of a PLANE", 4, of(0, 9, 9), of(9, -9, -9), of(9, 2, 2));
    }

    private static void theOld() {
        drifts("5 OLD: DRIFTS that, and that times MORE by 9 (cut)", 5, of(0, 9, 9), of(1, 9, 10), of(8, 1, 1), of(9, 1, 2), of(2, 4, 4),
            of(3, 4, 5), of(4, 4, 5), of(5, 4, 6), of(9, 4, 8), of(1, 8, 8), of(9, 0, 0));
        drifts("5 OLD: (cut) below 0, too", 5, of(0, -9, -9), of(1, -9, -10), of(8, -1, -1), of(9, -1, -2), of(2, -4, -4), of(3, -4, -5),
            of(4, -4, -5), of(5, -4, -6), of(9, -4, -8), of(1, -8, -8));
        THE.holds("5 OLD: the farthest that any DRIFTS, 18: over COLUMN 10 aside by 15", """
            plane(5, 9)
            law "sees 0;drifts 9;frosts 0;"
            load(0, 2, 5)
            strips 200
            seen(189) = 1
            seen(190) = 1
            seen(191) = 1
            seen(178) = 0
            flight(4) = 0
            drop(0)
            strips 201
            seen(190) = 0
            flight(4) = 1
            """);
        THE.holds("5 OLD: as far the other way, -18", """
            plane(5, 9)
            law "sees 0;drifts -9;frosts 0;"
            load(0, 2, 5)
            strips 215
            seen(9) = 1
            seen(10) = 1
            seen(11) = 1
            seen(22) = 0
            flight(4) = 0
            drop(0)
            strips 214
            seen(10) = 0
            flight(4) = 1
            """);
        minutes("5 OLD: miles, TURNS 1 longer", 5, of(0, 2, 5), of(9, 2, 5));
        sees("5 OLD: SEES as of a PLANE", 5, of(0, 0, 0), of(9, 9, 9));
    }

    // ---- promises 10 to 12

    private static void plane() {
        THE.holds("10: a PLANE of each KIND 0 .. 5, MORE 0 .. 9: its number", """
            plane(0, 0) = 0
            plane(5, 9) = 1
            plane(0, 9) = 2
            plane(5, 0) = 3
            told(0, 0) = 0
            told(0, 1) = 0
            told(1, 0) = 5
            told(1, 1) = 9
            told(2, 0) = 0
            told(2, 1) = 9
            told(3, 0) = 5
            told(3, 1) = 0
            """);
        THE.holds("Terms: FUEL 300 as one comes, FILM 200, EVERY 2", """
            0..3: plane(#, #) = #
            0..3: told(#, 2) = 300
            0..3: told(#, 3) = 200
            0..3: told(#, 4) = 2
            """);
        THE.holds("10: BAD: kind", """
            plane(-1, 0) = BAD
            plane(6, 0) = BAD
            plane(MIN, 0) = BAD
            plane(MAX, 0) = BAD
            count(0) = 0
            count(4) = NONE
            """);
        THE.holds("10: BAD: more", """
            plane(0, -1) = BAD
            plane(0, 10) = BAD
            plane(0, MIN) = BAD
            plane(0, MAX) = BAD
            count(0) = 0
            """);
        THE.holds("10: FULL: 4 at most", """
            0..2: plane(0, #) = #
            plane(5, 3) = 3
            plane(1, 1) = FULL
            plane(1, 1) = FULL
            count(0) = 4
            told(3, 0) = 5
            told(3, 1) = 3
            """);
        THE.holds("10: FULL changes not who flies", """
            0..3: plane(0, #) = #
            set(2, -1)
            plane(0, 0) = FULL
            count(4) = NONE
            """);
        THE.holds("10: of BAD, FULL the first one told", """
            0..3: plane(0, #) = #
            plane(6, 0) = BAD
            plane(0, 10) = BAD
            plane(-1, -1) = BAD
            plane(0, 0) = FULL
            """);
    }

    private static void load() {
        THE.holds("11: FUEL 0 .. 999 becomes v: what it was", """
            plane(0, 0)
            load(0, 0, 0) = 300
            told(0, 2) = 0
            load(0, 0, 999) = 0
            told(0, 2) = 999
            load(0, 0, 999) = 999
            """);
        THE.holds("11: FILM 0 .. 999 becomes v: what it was", """
            plane(0, 0)
            load(0, 1, 0) = 200
            told(0, 3) = 0
            load(0, 1, 999) = 0
            told(0, 3) = 999
            """);
        THE.holds("11: EVERY 1 .. 9 becomes v: what it was", """
            plane(0, 0)
            load(0, 2, 1) = 2
            told(0, 4) = 1
            load(0, 2, 9) = 1
            told(0, 4) = 9
            """);
        THE.holds("11: of a PLANE, and of no other", """
            0..3: plane(0, 0)
            load(3, 0, 1) = 300
            load(3, 1, 2) = 200
            load(3, 2, 3) = 2
            0..2: told(#, 2) = 300
            0..2: told(#, 3) = 200
            0..2: told(#, 4) = 2
            told(3, 2) = 1
            told(3, 3) = 2
            told(3, 4) = 3
            """);
    }

    private static void loadRefuses() {
        THE.holds("11: -5: no such PLANE", """
            load(0, 0, 1) = -5
            load(-1, 0, 1) = -5
            plane(0, 0)
            load(1, 0, 1) = -5
            load(-1, 0, 1) = -5
            1..3: plane(0, 0)
            load(4, 0, 1) = -5
            load(MIN, 0, 1) = -5
            load(MAX, 0, 1) = -5
            """);
        THE.holds("11: -7: what", """
            plane(0, 0)
            load(0, -1, 1) = -7
            load(0, 3, 1) = -7
            load(0, MIN, 1) = -7
            load(0, MAX, 1) = -7
            """);
        THE.holds("11: -7: v, of FUEL", """
            plane(0, 0)
            load(0, 0, -1) = -7
            load(0, 0, 1000) = -7
            load(0, 0, MIN) = -7
            load(0, 0, MAX) = -7
            told(0, 2) = 300
            """);
        THE.holds("11: -7: v, of FILM", """
            plane(0, 0)
            load(0, 1, -1) = -7
            load(0, 1, 1000) = -7
            load(0, 1, MIN) = -7
            load(0, 1, MAX) = -7
            told(0, 3) = 200
            """);
        THE.holds("11: -7: v, of EVERY", """
            plane(0, 0)
            load(0, 2, 0) = -7
            load(0, 2, 10) = -7
            load(0, 2, 200) = -7
            load(0, 2, MIN) = -7
            load(0, 2, MAX) = -7
            told(0, 4) = 2
            """);
        THE.holds("11: of -5, -7 the first one told", """
            load(0, 3, -1) = -5
            plane(0, 0)
            load(1, 0, 1000) = -5
            load(-1, -1, 0) = -5
            """);
    }

    private static void told() {
        THE.holds("12: 0 KIND, 1 MORE, 2 FUEL, 3 FILM, 4 EVERY, 5 minutes a mile, 6 a TURN takes", """
            plane(5, 9)
            told(0, 0) = 5
            told(0, 1) = 9
            told(0, 2) = 300
            told(0, 3) = 200
            told(0, 4) = 2
            told(0, 5) = 2
            told(0, 6) = 5
            """);
        THE.holds("12: -5: no such PLANE", """
            told(0, 0) = -5
            0..3: plane(0, 0)
            told(-1, 0) = -5
            told(4, 0) = -5
            told(MIN, 0) = -5
            told(MAX, 0) = -5
            """);
        THE.holds("12: -5: a PLANE that is none since back()", """
            plane(0, 0)
            image()
            plane(1, 1)
            told(1, 0) = 1
            back()
            told(1, 0) = -5
            """);
        THE.holds("12: -7: what", """
            plane(0, 0)
            told(0, -1) = -7
            told(0, 7) = -7
            told(0, MIN) = -7
            told(0, MAX) = -7
            """);
        THE.holds("12: of -5, -7 the first one told", """
            told(0, 7) = -5
            told(-1, -1) = -5
            """);
    }

    // ---- promises 13 to 15

    private static void strip() {
        THE.holds("13: WAYS 0, 1 along: COLUMN 0 .. 11", """
            strip(0, 0) = 1
            strip(0, 11) = 2
            strip(1, 0) = 3
            strip(1, 11) = 4
            planned(0) = 0
            planned(1) = 11
            planned(2) = 100
            planned(3) = 111
            """);
        THE.holds("13: WAYS 2, 3 across: ROW 0 .. 15", """
            strip(2, 0) = 1
            strip(2, 15) = 2
            strip(3, 0) = 3
            strip(3, 15) = 4
            planned(0) = 200
            planned(1) = 215
            planned(2) = 300
            planned(3) = 315
            """);
        THE.holds("13: BAD: WAY", """
            strip(-1, 0) = BAD
            strip(4, 0) = BAD
            strip(MIN, 0) = BAD
            strip(MAX, 0) = BAD
            count(1) = 0
            """);
        THE.holds("13: BAD: LINE along", """
            strip(0, -1) = BAD
            strip(0, 12) = BAD
            strip(0, 15) = BAD
            strip(1, -1) = BAD
            strip(1, 12) = BAD
            strip(0, MIN) = BAD
            strip(1, MAX) = BAD
            count(1) = 0
            """);
        THE.holds("13: BAD: LINE across", """
            strip(2, -1) = BAD
            strip(2, 16) = BAD
            strip(3, -1) = BAD
            strip(3, 16) = BAD
            strip(2, MIN) = BAD
            strip(3, MAX) = BAD
            count(1) = 0
            """);
        THE.holds("13: FULL: 12 at most; behind all others", """
            0..10: strip(3, #)
            strip(2, 5) = 12
            strip(2, 6) = FULL
            strip(2, 6) = FULL
            count(1) = 12
            planned(11) = 205
            """);
        THE.holds("13: of BAD, FULL the first one told", """
            0..11: strip(3, #)
            strip(4, 0) = BAD
            strip(0, 12) = BAD
            strip(-1, -1) = BAD
            strip(0, 0) = FULL
            """);
    }

    private static void drop() {
        THE.holds("14: the first one goes, those behind it are one ahead: what it was", """
            strips 3 111 215
            drop(0) = 3
            planned(0) = 111
            planned(1) = 215
            planned(2) = -6
            """);
        THE.holds("14: one between goes", """
            strips 3 111 215 300
            drop(1) = 111
            planned(0) = 3
            planned(1) = 215
            planned(2) = 300
            count(1) = 3
            """);
        THE.holds("14: the last one goes", """
            strips 3 111 315
            drop(2) = 315
            planned(0) = 3
            planned(1) = 111
            planned(2) = -6
            """);
        THE.holds("14: the only one goes", """
            strips 207
            drop(0) = 207
            count(1) = 0
            drop(0) = -6
            strip(1, 1) = 1
            planned(0) = 101
            """);
        THE.holds("14: of twelve; there is room then", """
            0..11: strip(2, #)
            drop(0) = 200
            planned(10) = 211
            planned(11) = -6
            strip(0, 7) = 12
            planned(11) = 7
            drop(11) = 7
            """);
        THE.holds("14: -6: no such STRIP", """
            drop(0) = -6
            strips 3 4
            drop(2) = -6
            drop(-1) = -6
            drop(MIN) = -6
            drop(MAX) = -6
            count(1) = 2
            """);
        THE.holds("14: -6: no thirteenth", """
            0..11: strip(2, #)
            drop(12) = -6
            count(1) = 12
            """);
    }

    private static void planned() {
        THE.holds("15: the first and the last of twelve (100 times WAY, and LINE)", """
            strips 0 1 2 3 4 5 6 7 8 9 10 315
            planned(0) = 0
            planned(11) = 315
            """);
        THE.holds("15: -6: no such STRIP", """
            planned(0) = -6
            strips 5
            planned(0) = 5
            planned(1) = -6
            planned(-1) = -6
            planned(MIN) = -6
            planned(MAX) = -6
            """);
        THE.holds("15: -6: no thirteenth", """
            0..11: strip(2, #)
            planned(12) = -6
            """);
    }
}
