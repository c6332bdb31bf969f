/** Each sentence that names a boundary case: what would be better; PLANNED strips; promises 19 to 26. */
public final class BetterSentencesTest {
    private static final Sentences THE = new Sentences("sentences of what would be better");
    /** One that is not borne aside and sees the LINE alone: 16 MILES along, 12 across. */
    private static final String NARROW = "plane(0, 0)\nlaw \"sees 0;drifts 0;frosts 0;\"\n";
    /** One that sees 1 to either side, too: 48 MILES along, 36 across, fewer at the edges. */
    private static final String NEAR = "plane(0, 0)\nlaw \"sees 1;drifts 0;frosts 0;\"\n";

    public static void main(String[] args) {
        badWhat();
        spare();
        spareNone();
        again();
        againNone();
        apart();
        apartRefuses();
        plannedStrips();
        begin();
        seldom();
        who();
        when();
        tuft();
        THE.end();
    }

    /** CLOUDS over all MILES of these ROWS and COLUMNS. */
    private static String clouds(int firstRow, int lastRow, int firstColumn, int lastColumn) {
        StringBuilder run = new StringBuilder();
        for (int y = firstRow; y <= lastRow; y++) {
            for (int x = firstColumn; x <= lastColumn; x++) {
                run.append("land(").append(12 * y + x).append(", 1, 1)\n");
            }
        }
        return run.toString();
    }

    /** CLOUDS over all MILES but these. */
    private static String cloudsBut(int... miles) {
        StringBuilder run = new StringBuilder();
        for (int m = 0; m < 192; m++) {
            boolean free = false;
            for (int mile : miles) {
                free |= mile == m;
            }
            run.append(free ? "" : "land(" + m + ", 1, 1)\n");
        }
        return run.toString();
    }

    private static void badWhat() {
        int promise = 19;
        for (String call : new String[] {"spare(", "again(", "apart(0, 0, 0, ", "begin(1, ", "seldom(", "who(", "when(", "tuft("}) {
            String bad = "";
            for (String what : new String[] {"-1", "2", "MIN", "MAX"}) {
                bad += call + what + ") = BAD\n";
            }
            THE.holds(promise + ": BAD: what", NEAR + "strips 3 4\nland(3, 1, 1)\n" + bad);
            THE.holds(promise + ": BAD: what, ahead of none that flies, nothing that is there", bad);
            promise++;
        }
    }

    // ---- promise 19

    private static void spare() {
        THE.holds("19: without which no fewer would be COVERED: as many", NEAR + """
            strips 1 1
            spare(0) = 0
            spare(1) = 16
            """);
        THE.holds("19: without which no fewer would be COVERED: more", NEAR + """
            strips 203 1
            load(0, 0, 16)
            flight(0) = 36
            spare(0) = 0
            spare(1) = 16
            """);
        THE.holds("19: the first STRIP", NEAR + """
            strips 4 1 1
            spare(0) = 1
            spare(1) = 36
            """);
        THE.holds("19: the last STRIP of three", NEAR + """
            strips 1 4 0
            spare(0) = 2
            spare(1) = 36
            """);
        THE.holds("19: the last STRIP of twelve", NARROW + """
            0..10: strip(0, #)
            strip(2, 11) = 12
            land(143, 1, 1)
            spare(0) = 11
            spare(1) = 216
            """);
        THE.holds("19: a STRIP that isn't flown, and no TURN ahead of it then", NEAR + """
            strips 1 204
            load(0, 0, 16)
            flight(5) = 20
            spare(0) = 1
            spare(1) = 16
            """);
        THE.holds("19: the only STRIP, by which nothing is COVERED", NEAR + """
            strips 3
            set(1, 9)
            spare(0) = 0
            spare(1) = 0
            """);
        THE.holds("19: none flies: the first STRIP, no minutes", """
            strips 3 4
            spare(0) = 0
            spare(1) = 0
            """);
    }

    private static void spareNone() {
        THE.holds("19: -1: none; minutes -1", NEAR + """
            strips 1 4
            spare(0) = NONE
            spare(1) = -1
            """);
        THE.holds("19: -1: none of one that is needed", NEAR + """
            strips 1
            spare(0) = NONE
            spare(1) = -1
            """);
        THE.holds("19: -1: none of no STRIPS", NEAR + """
            spare(0) = NONE
            spare(1) = -1
            """);
        THE.holds("19: one MILE fewer is fewer", NARROW + """
            strips 3 203
            0..2: land(#, 1, 1)
            spare(0) = NONE
            drop(1)
            strips 3
            land(3, 1, 1)
            spare(0) = 0
            """);
    }

    // ---- promise 20

    private static void again() {
        THE.holds("20: by which most MILES would be COVERED: how many", NEAR + """
            strips 1 4 7
            again(0) = 10
            again(1) = 192
            """);
        THE.holds("20: of like ones the first LINE", NEAR + """
            strips 1 4
            again(0) = 7
            again(1) = 144
            """);
        THE.holds("20: of like ones the first, by WAY, then LINE", NEAR + clouds(1, 15, 0, 11) + """
            0..10: land(#, 1, 1)
            again(0) = 10
            again(1) = 1
            """);
        THE.holds("20: behind all others", NEAR + """
            strips 0
            load(0, 0, 16)
            again(0) = NONE
            again(1) = 32
            """);
        THE.holds("20: the first WAY and LINE of all", NARROW + """
            again(0) = 0
            again(1) = 16
            """);
        // One CLICK alone covers something, that of STEP 7; borne aside by 9 it covers these MILES from LINES -1 only.
        String oneClick = "load(0, 2, 7)\nload(0, 1, 2)\n";
        THE.holds("20: no LINE ahead of the first", "plane(0, 0)\nlaw \"sees 0;drifts 9;frosts (clicks<2)*100;\"\n" + oneClick
            + cloudsBut(74, 110, 54, 51) + "again(0) = NONE\nagain(1) = 0\n");
        // As much the other way, from LINES 12 along, 16 across.
        THE.holds("20: no LINE behind the last", "plane(0, 0)\nlaw \"sees 0;drifts -9;frosts (clicks<2)*100;\"\n" + oneClick
            + cloudsBut(81, 117, 138, 135) + "again(0) = NONE\nagain(1) = 0\n");
        THE.holds("20: of no STRIPS", NEAR + """
            again(0) = 1
            again(1) = 48
            """);
        THE.holds("20: the last LINE across: 100 times WAY, and LINE", NARROW + clouds(0, 14, 0, 11) + """
            again(0) = 215
            again(1) = 12
            """);
        THE.holds("20: the last LINE across, back", NARROW + clouds(0, 14, 0, 11) + """
            land(180, 1, 1)
            land(181, 1, 1)
            load(0, 1, 1)
            again(0) = 315
            again(1) = 2
            """);
        THE.holds("20: the last LINE along, back", NARROW + clouds(0, 15, 0, 10) + """
            load(0, 1, 1)
            land(11, 1, 1)
            land(23, 1, 1)
            again(0) = 111
            again(1) = 2
            """);
        THE.holds("20: room for a twelfth", NEAR + """
            1..11: strip(0, 1)
            again(0) = 4
            again(1) = 96
            """);
    }

    private static void againNone() {
        THE.holds("20: -1: none, if no more than now; how many: as now", NEAR + """
            strips 1 4 7 10
            again(0) = NONE
            again(1) = 192
            """);
        THE.holds("20: -1: there is no room; how many: as now", NEAR + """
            1..12: strip(0, 1)
            again(0) = NONE
            again(1) = 48
            """);
        THE.holds("20: -1: none flies", """
            strips 3
            again(0) = NONE
            again(1) = 0
            """);
        THE.holds("20: -1: in the dark", NEAR + """
            set(1, 14)
            again(0) = NONE
            again(1) = 0
            """);
    }

    // ---- promise 21

    private static void apart() {
        THE.holds("21: the greatest apart, 9", NARROW + """
            apart(0, 0, 32, 0) = 9
            apart(0, 0, 32, 1) = 36
            apart(1, 0, 24, 0) = 9
            apart(1, 0, 24, 1) = 28
            """);
        THE.holds("21: the greatest apart, 1", NARROW + """
            apart(0, 0, 97, 0) = 1
            apart(0, 0, 97, 1) = 236
            apart(0, 0, 192, 0) = 1
            apart(0, 0, 192, 1) = 236
            """);
        THE.holds("21: so many MILES or more", NARROW + """
            apart(0, 0, 96, 0) = 2
            apart(0, 0, 96, 1) = 116
            apart(0, 0, 65, 0) = 2
            apart(0, 0, 64, 0) = 3
            apart(0, 0, 48, 0) = 5
            apart(0, 0, 33, 0) = 5
            apart(0, 0, 49, 0) = 3
            """);
        THE.holds("21: no MILES are enough", """
            apart(0, 0, 0, 0) = 9
            apart(0, 0, 0, 1) = 0
            apart(0, 0, 1, 0) = NONE
            plane(0, 0)
            apart(0, 9, 0, 0) = 9
            apart(0, 9, 0, 1) = 16
            """);
        // Twelve STRIPS, which are no LINES apart, would last till there is light.
        THE.holds("21: 9 .. 1, and none that is 0 apart", NARROW + """
            set(1, 9)
            apart(0, 9, 1, 0) = NONE
            apart(0, 9, 1, 1) = -1
            """);
        THE.holds("21: -1: none; minutes -1", NARROW + """
            apart(0, 1, 177, 0) = NONE
            apart(0, 1, 177, 1) = -1
            apart(0, 1, 192, 0) = NONE
            apart(0, 1, 192, 1) = -1
            apart(0, 1, 176, 0) = 1
            """);
    }

    private static void apartRefuses() {
        THE.holds("21: BAD: across", NEAR + """
            apart(-1, 0, 0, 0) = BAD
            apart(2, 0, 0, 0) = BAD
            apart(MIN, 0, 0, 0) = BAD
            apart(MAX, 0, 0, 0) = BAD
            """);
        THE.holds("21: BAD: from, of a LINE (0 .. 9)", NEAR + """
            apart(0, 9, 0, 0) = 9
            apart(0, -1, 0, 0) = BAD
            apart(0, 10, 0, 0) = BAD
            apart(1, 10, 0, 0) = BAD
            apart(1, MIN, 0, 0) = BAD
            apart(1, MAX, 0, 0) = BAD
            """);
        THE.holds("21: BAD: MILES (0 .. 192)", NEAR + """
            apart(0, 0, 192, 0) = 2
            apart(0, 0, -1, 0) = BAD
            apart(0, 0, 193, 0) = BAD
            apart(0, 0, MIN, 0) = BAD
            apart(0, 0, MAX, 0) = BAD
            """);
    }

    private static void plannedStrips() {
        THE.holds("PLANNED: in the country, along: the last COLUMN is 11", NARROW + """
            apart(0, 9, 16, 0) = 9
            apart(0, 9, 17, 0) = 2
            apart(0, 9, 32, 0) = 2
            apart(0, 9, 33, 0) = 1
            apart(0, 9, 48, 0) = 1
            apart(0, 9, 49, 0) = NONE
            """);
        THE.holds("PLANNED: in the country, across: the last ROW is 15", NARROW + """
            apart(1, 9, 13, 0) = 6
            apart(1, 9, 24, 0) = 6
            apart(1, 9, 24, 1) = 28
            apart(1, 9, 25, 0) = 3
            apart(1, 9, 84, 0) = 1
            apart(1, 9, 85, 0) = NONE
            """);
        THE.holds("PLANNED: 12 at most", NARROW + """
            apart(1, 0, 144, 0) = 1
            apart(1, 0, 144, 1) = 188
            apart(1, 0, 145, 0) = NONE
            apart(1, 4, 144, 0) = 1
            apart(1, 5, 133, 0) = NONE
            apart(1, 5, 132, 0) = 1
            """);
        THE.holds("PLANNED: the second goes back, along", NARROW + """
            load(0, 0, 21)
            land(9, 1, 1)
            land(21, 1, 1)
            apart(0, 0, 18, 0) = 9
            """);
        THE.holds("PLANNED: the third goes forward, along", NARROW + """
            load(0, 0, 41)
            land(178, 1, 1)
            land(190, 1, 1)
            apart(0, 0, 34, 0) = 5
            """);
        THE.holds("PLANNED: the second goes back, across", NARROW + """
            load(0, 0, 17)
            land(108, 1, 1)
            land(109, 1, 1)
            apart(1, 0, 14, 0) = 9
            """);
        THE.holds("PLANNED: the first goes forward", NARROW + """
            load(0, 0, 2)
            land(180, 1, 1)
            land(11, 1, 1)
            apart(0, 0, 2, 0) = 9
            apart(1, 0, 2, 0) = 9
            """);
        THE.holds("PLANNED: instead of all STRIPS", NARROW + """
            0..11: strip(0, #)
            apart(0, 0, 33, 0) = 5
            apart(0, 0, 33, 1) = 56
            apart(1, 5, 133, 0) = NONE
            begin(9, 1) = 32
            count(1) = 12
            planned(11) = 11
            """);
    }

    // ---- promise 22

    private static void begin() {
        THE.holds("22: of like ones the first", NARROW + """
            begin(9, 0) = 0
            begin(9, 1) = 32
            begin(1, 0) = 0
            begin(1, 1) = 192
            """);
        THE.holds("22: of like ones the first, along ahead of across", NARROW + """
            load(0, 0, 12)
            begin(9, 0) = 0
            begin(9, 1) = 12
            """);
        THE.holds("22: by which most: LINE from", NEAR + """
            begin(9, 0) = 1
            begin(9, 1) = 96
            begin(3, 0) = 1
            begin(3, 1) = 192
            begin(2, 0) = 0
            """);
        THE.holds("22: 10 times across, and LINE from", NARROW + clouds(0, 0, 0, 11) + """
            load(0, 0, 12)
            begin(9, 0) = 11
            begin(9, 1) = 12
            """);
        THE.holds("22: the last LINE from, across", NARROW + clouds(0, 8, 0, 11) + """
            load(0, 0, 12)
            begin(9, 0) = 19
            begin(9, 1) = 12
            """);
        THE.holds("22: no LINE from behind 9, across", NARROW + clouds(0, 9, 0, 11) + """
            load(0, 0, 12)
            begin(9, 0) = 0
            begin(9, 1) = 2
            """);
        THE.holds("22: the last LINE from, along", NARROW + clouds(0, 15, 0, 8) + """
            load(0, 0, 16)
            begin(9, 0) = 9
            begin(9, 1) = 16
            """);
        THE.holds("22: nothing would be COVERED: the first", """
            begin(5, 0) = 0
            begin(5, 1) = 0
            """);
        THE.holds("22: BAD: apart (1 .. 9)", NEAR + """
            begin(0, 0) = BAD
            begin(10, 0) = BAD
            begin(-1, 1) = BAD
            begin(MIN, 0) = BAD
            begin(MAX, 0) = BAD
            begin(1, 0) = 0
            begin(9, 0) = 1
            """);
    }

    // ---- promises 23 to 26

    private static void seldom() {
        THE.holds("23: the greatest EVERY, 9; CLICKS then", NEAR + """
            strips 3
            load(0, 2, 9)
            seldom(0) = 9
            seldom(1) = 2
            """);
        THE.holds("23: the greatest EVERY, 1; CLICKS then", """
            plane(0, 0)
            strips 3
            law "sees (row=1)*9;drifts 0;frosts 0;"
            load(0, 2, 1)
            seldom(0) = 1
            seldom(1) = 16
            """);
        THE.holds("23: no fewer MILES than now: as many", NEAR + """
            strips 3
            seldom(0) = 3
            seldom(1) = 6
            told(0, 4) = 2
            load(0, 2, 4)
            seldom(0) = 4
            seldom(1) = 4
            """);
        THE.holds("23: no fewer MILES than now: more", NEAR + """
            strips 3
            load(0, 2, 1)
            load(0, 1, 5)
            flight(0) = 18
            seldom(0) = 7
            seldom(1) = 3
            """);
        THE.holds("23: of WHO FLIES", NEAR + """
            plane(0, 0)
            strips 3
            load(0, 2, 1)
            load(1, 2, 9)
            set(2, 1)
            seldom(0) = 9
            set(2, 0)
            seldom(0) = 3
            """);
        THE.holds("23: nothing is COVERED now", NEAR + """
            seldom(0) = 9
            seldom(1) = 0
            """);
        THE.holds("23: -1: none flies", NEAR + """
            strips 3
            set(2, -1)
            seldom(0) = NONE
            seldom(1) = -1
            new
            seldom(0) = NONE
            seldom(1) = -1
            """);
    }

    private static void who() {
        THE.holds("24: of like ones the first", """
            0..3: plane(0, #)
            strips 3
            set(2, 2)
            who(0) = 0
            who(1) = 112
            """);
        THE.holds("24: the last of four, by which most", """
            0..2: plane(0, 0)
            plane(2, 0)
            strips 3
            who(0) = 3
            who(1) = 128
            count(4) = 0
            """);
        THE.holds("24: did it FLY: none flies now", """
            plane(0, 0)
            plane(2, 0)
            strips 3
            set(2, -1)
            who(0) = 1
            who(1) = 128
            """);
        THE.holds("24: with its own FUEL, FILM, EVERY", """
            0..3: plane(0, 0)
            strips 3
            load(0, 0, 0)
            load(1, 1, 0)
            load(2, 2, 9)
            who(0) = 3
            who(1) = 112
            """);
        THE.holds("24: nothing would be COVERED: the first", """
            plane(0, 0)
            plane(0, 0)
            who(0) = 0
            who(1) = 0
            """);
        THE.holds("24: -1: there are none", """
            strips 3
            who(0) = NONE
            who(1) = -1
            """);
        THE.holds("24: not by PLANES that are none since back()", """
            plane(0, 0)
            image()
            plane(4, 9)
            strips 3
            who(0) = 1
            back()
            strips 3
            who(0) = 0
            who(1) = 112
            """);
    }

    private static void when() {
        THE.holds("25: of like ones the least", NEAR + """
            strips 3
            when(0) = 10
            when(1) = 48
            set(1, 23)
            when(0) = 10
            when(1) = 48
            """);
        THE.holds("25: the last of light", """
            plane(0, 0)
            strips 5
            law "sees hour-10;drifts 0;frosts 0;"
            when(0) = 13
            when(1) = 112
            """);
        // The tenth STRIP begins with minute 360, the last one ends with minute 472: it is light from hour 10 on, till hour 14.
        THE.holds("25: ahead of light, since a FLIGHT takes hours", """
            plane(2, 0)
            law "sees 0;drifts 0;frosts 0;"
            load(0, 0, 999)
            strips 1 1 1 1 1 1 1 1 1 1 4 7
            when(0) = 4
            when(1) = 144
            """);
        THE.holds("25: nothing would be COVERED: HOUR 0", """
            when(0) = 0
            when(1) = 0
            plane(0, 0)
            when(0) = 0
            when(1) = 0
            """);
    }

    private static void tuft() {
        THE.holds("26: of like ones the first", NARROW + """
            strips 3
            land(183, 1, 1)
            land(39, 1, 1)
            land(2, 1, 1)
            tuft(0) = 39
            tuft(1) = 15
            """);
        THE.holds("26: MILE 0", NARROW + """
            strips 0
            land(0, 1, 1)
            land(191, 1, 1)
            tuft(0) = 0
            tuft(1) = 16
            """);
        THE.holds("26: MILE 191", NARROW + """
            strips 11
            land(0, 1, 1)
            land(191, 1, 1)
            tuft(0) = 191
            tuft(1) = 16
            mile(191, 1) = 1
            """);
        THE.holds("26: -1: none, if no more than now; how many: as now", NARROW + """
            strips 3
            land(0, 1, 1)
            tuft(0) = NONE
            tuft(1) = 16
            """);
        THE.holds("26: -1: there are no CLOUDS", NARROW + """
            strips 3
            tuft(0) = NONE
            tuft(1) = 16
            """);
        THE.holds("26: -1: none flies", """
            land(0, 1, 1)
            strips 0
            tuft(0) = NONE
            tuft(1) = 0
            """);
        THE.holds("26: all is under CLOUDS", NARROW + clouds(0, 15, 0, 11) + """
            strips 3
            tuft(0) = 3
            tuft(1) = 1
            """);
    }
}
