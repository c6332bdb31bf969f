/** Each sentence that names a boundary case: CLOUDS by a SEED, LOTS, AN IMAGE; promises 32 to 35. */
public final class CloudSentencesTest {
    private static final Sentences THE = new Sentences("sentences of clouds by lots, images");
    /** MILES 0 and 1 are covered, by one click, and no others. */
    private static final String TWO = "plane(0, 0)\nlaw \"sees 0;drifts 0;frosts 0;\"\nload(0, 1, 1)\nstrips 200\n";
    /** ROW 0 is covered, and no other. */
    private static final String ROW = "plane(0, 0)\nlaw \"sees 0;drifts 0;frosts 0;\"\nstrips 200\n";
    private static final String ALL = "plane(0, 0)\nlaw \"sees 1;drifts 0;frosts 0;\"\nstrips 1 4 7 10\n";

    public static void main(String[] args) {
        drawn();
        drawnRefuses();
        odds();
        lowestTerms();
        oddsRefuses();
        whatAnImageKeeps();
        planesSince();
        image();
        whatNoImageKeeps();
        THE.end();
    }

    // ---- promise 32

    private static void drawn() {
        // The first twelve LOTS of SEED 0, modulo 100: 71 94 86 37 41 83 61 5 91 31 71 7.
        THE.holds("CLOUDS by a SEED: one, if LOT modulo 100 is below the odds", ROW + """
            drawn(0, 5) = 12
            drawn(0, 6) = 11
            drawn(0, 7) = 11
            drawn(0, 8) = 10
            drawn(0, 71) = 6
            drawn(0, 72) = 4
            drawn(0, 94) = 1
            drawn(0, 95) = 0
            """);
        THE.holds("CLOUDS by a SEED: odds 0, 100", ALL + """
            drawn(0, 0) = 192
            drawn(0, 100) = 0
            drawn(99999, 0) = 192
            drawn(99999, 100) = 0
            """);
        THE.holds("CLOUDS by a SEED: a LOT for each MILE", ALL + """
            drawn(0, 50) = 100
            drawn(0, 99) = 4
            drawn(1, 1) = 191
            drawn(1, 50) = 91
            drawn(1, 99) = 1
            """);
        // The last two LOTS of SEED 1, modulo 100: 33 32; of SEED 6: 98 12.
        THE.holds("CLOUDS by a SEED: the LOT of MILE 191", """
            plane(0, 0)
            law "sees 0;drifts 0;frosts 0;"
            load(0, 1, 1)
            strips 315
            drawn(1, 32) = 2
            drawn(1, 33) = 1
            drawn(1, 34) = 0
            drawn(6, 12) = 2
            drawn(6, 13) = 1
            drawn(6, 98) = 1
            drawn(6, 99) = 0
            """);
        // 100000 times 48271 is more than an int: its LOTS are 532132706, then one of 59 modulo 100.
        THE.holds("CLOUDS by a SEED (0 .. 99999): the greatest", TWO + """
            drawn(99999, 6) = 2
            drawn(99999, 7) = 1
            drawn(99999, 59) = 1
            drawn(99999, 60) = 0
            """);
        THE.holds("LOTS: the first is (SEED and 1) times 48271", TWO + """
            drawn(0, 71) = 2
            drawn(0, 72) = 1
            drawn(1, 42) = 2
            drawn(1, 43) = 1
            """);
        THE.holds("CLOUDS by a SEED: instead of all CLOUDS", ROW + """
            0..11: land(#, 1, 1)
            flight(0) = 0
            drawn(0, 0) = 12
            drawn(0, 6) = 11
            flight(0) = 0
            """);
        THE.holds("32: none flies", "strips 200\ndrawn(0, 0) = 0\ndrawn(99999, 100) = 0\n");
    }

    private static void drawnRefuses() {
        THE.holds("32: BAD: seed", ROW + """
            drawn(-1, 0) = BAD
            drawn(100000, 0) = BAD
            drawn(MIN, 0) = BAD
            drawn(MAX, 0) = BAD
            """);
        THE.holds("32: BAD: odds", ROW + """
            drawn(0, -1) = BAD
            drawn(0, 101) = BAD
            drawn(0, MIN) = BAD
            drawn(0, MAX) = BAD
            """);
        THE.holds("32: BAD, though none flies", "drawn(-1, 0) = BAD\ndrawn(100000, 0) = BAD\ndrawn(0, -1) = BAD\ndrawn(0, 101) = BAD\n");
    }

    // ---- promise 33

    /** odds() of so many days from SEED 0 on, of so many MILES: above and below the line. */
    private static String line(int days, int odds, int miles, int above, int below) {
        String call = "odds(0, " + days + ", " + odds + ", " + miles + ", ";
        return call + "0) = " + above + "\n" + call + "1) = " + below + "\n";
    }

    private static void odds() {
        THE.holds("33: so many (1 .. 12) seeds: one", TWO + line(1, 71, 2, 1, 1) + line(1, 72, 2, 0, 1));
        THE.holds("33: so many (1 .. 12) seeds: twelve", TWO + line(12, 72, 2, 1, 12) + line(12, 11, 2, 11, 12));
        THE.holds("33: SEED and each 1 more", TWO + line(2, 43, 2, 1, 2) + line(2, 42, 2, 1, 1) + line(3, 14, 2, 2, 3) + line(3, 13, 2, 1, 1)
            + "odds(1, 1, 43, 2, 0) = 0\nodds(1, 1, 42, 2, 0) = 1\nodds(3, 1, 76, 2, 0) = 1\nodds(3, 1, 77, 2, 0) = 0\n");
        // SEEDS 99999 and 100000 have LOTS 6 59 and 77 53, modulo 100; SEED 0 has 71 94.
        THE.holds("33: they may pass 99999", TWO + """
            odds(99999, 2, 53, 2, 0) = 1
            odds(99999, 2, 53, 2, 1) = 2
            odds(99999, 2, 54, 2, 0) = 0
            odds(99999, 2, 54, 2, 1) = 1
            odds(99999, 12, 50, 2, 0) = 1
            odds(99999, 12, 50, 2, 1) = 12
            odds(99999, 12, 0, 2, 1) = 1
            """);
        THE.holds("33: so many MILES (0 .. 192) or more: 0", TWO + line(12, 100, 0, 1, 1) + line(12, 100, 1, 0, 1));
        THE.holds("33: so many MILES (0 .. 192) or more: 192", ALL + line(12, 0, 192, 1, 1) + line(12, 100, 192, 0, 1));
        THE.holds("33: so many MILES or more: as many, more, fewer", TWO + line(1, 72, 1, 1, 1) + line(1, 72, 2, 0, 1) + line(1, 0, 1, 1, 1)
            + line(1, 0, 2, 1, 1) + line(1, 0, 3, 0, 1));
        THE.holds("33: instead of all CLOUDS", TWO + "land(0, 1, 1)\nland(1, 1, 1)\n" + line(3, 0, 2, 1, 1) + line(3, 14, 2, 2, 3));
        THE.holds("33: none flies", line(5, 0, 1, 0, 1) + line(5, 0, 0, 1, 1));
    }

    private static void lowestTerms() {
        THE.holds("33: in lowest terms: none of so many", TWO + line(12, 77, 2, 0, 1) + line(7, 77, 2, 0, 1) + line(1, 77, 2, 0, 1));
        THE.holds("33: in lowest terms: all of so many", TWO + line(12, 10, 2, 1, 1) + line(11, 0, 2, 1, 1) + line(9, 0, 2, 1, 1));
        THE.holds("33: in lowest terms: of twelve", TWO + line(12, 14, 2, 5, 6) + line(12, 27, 2, 3, 4) + line(12, 35, 2, 2, 3)
            + line(12, 40, 2, 7, 12) + line(12, 43, 2, 1, 2) + line(12, 53, 2, 1, 3) + line(12, 56, 2, 1, 4) + line(12, 59, 2, 1, 6));
        THE.holds("33: in lowest terms: of fewer", TWO + line(10, 14, 2, 4, 5) + line(10, 40, 2, 3, 5) + line(10, 43, 2, 1, 2)
            + line(10, 59, 2, 1, 5) + line(9, 40, 2, 2, 3) + line(9, 56, 2, 1, 3) + line(8, 27, 2, 3, 4) + line(8, 53, 2, 1, 2) + line(8, 59, 2, 1, 4)
            + line(6, 27, 2, 2, 3) + line(6, 43, 2, 1, 2) + line(4, 43, 2, 1, 2) + line(11, 40, 2, 6, 11) + line(7, 43, 2, 4, 7));
    }

    private static void oddsRefuses() {
        String[] rows = {"seed: -1, 1, 0, 0", "seed: 100000, 1, 0, 0", "seed: MIN, 1, 0, 0", "seed: MAX, 12, 0, 0",
            "days: 0, 0, 0, 0", "days: 0, 13, 0, 0", "days: 0, -1, 0, 0", "days: 0, MIN, 0, 0", "days: 0, MAX, 0, 0",
            "odds: 0, 1, -1, 0", "odds: 0, 1, 101, 0", "odds: 0, 1, MIN, 0", "odds: 0, 1, MAX, 0",
            "miles: 0, 1, 0, -1", "miles: 0, 1, 0, 193", "miles: 0, 1, 0, MIN", "miles: 0, 1, 0, MAX"};
        for (String row : rows) {
            String name = row.substring(0, row.indexOf(':'));
            String numbers = row.substring(row.indexOf(':') + 2);
            THE.holds("33: NO: " + name + " in " + numbers, ROW + "odds(" + numbers + ", 0) = NO\nodds(" + numbers + ", 1) = NO\nnew\nodds("
                + numbers + ", 0) = NO\n");
        }
        THE.holds("33: NO: part", ROW + """
            odds(0, 1, 0, 0, -1) = NO
            odds(0, 1, 0, 0, 2) = NO
            odds(0, 1, 0, 0, MIN) = NO
            odds(0, 1, 0, 0, MAX) = NO
            """);
        THE.holds("33: the last of each", ALL + "odds(99999, 12, 100, 192, 1) = 1\nodds(99999, 12, 100, 192, 0) = 0\n");
    }

    // ---- promises 34 and 35

    private static void whatAnImageKeeps() {
        THE.holds("AN IMAGE keeps HILLS", """
            land(0, 0, 9)
            land(191, 0, 4)
            image()
            land(0, 0, 1)
            land(191, 0, 0)
            land(100, 0, 5)
            back() = 0
            mile(0, 0) = 9
            mile(191, 0) = 4
            mile(100, 0) = 0
            """);
        THE.holds("AN IMAGE keeps CLOUDS", """
            land(0, 1, 1)
            land(191, 1, 1)
            image()
            land(0, 1, 0)
            land(191, 1, 0)
            land(100, 1, 1)
            back() = 0
            mile(0, 1) = 1
            mile(191, 1) = 1
            mile(100, 1) = 0
            """);
        THE.holds("AN IMAGE keeps STRIPS: those that went since", """
            strips 0 111 215
            image()
            drop(0)
            drop(0)
            drop(0)
            back() = 0
            count(1) = 3
            planned(0) = 0
            planned(1) = 111
            planned(2) = 215
            """);
        THE.holds("AN IMAGE keeps STRIPS: those that came since are gone", """
            image()
            0..11: strip(0, #)
            back() = 0
            count(1) = 0
            planned(0) = -6
            strip(3, 3) = 1
            """);
        THE.holds("AN IMAGE keeps STRIPS: twelve of them", """
            0..11: strip(2, #)
            image()
            drop(0)
            strip(1, 1) = 12
            back() = 0
            planned(0) = 200
            planned(11) = 211
            strip(0, 0) = FULL
            """);
        THE.holds("AN IMAGE keeps FUEL, FILM, EVERY of all PLANES", """
            0..3: plane(0, #)
            0..3: load(#, 0, #)
            0..3: load(#, 1, #)
            load(3, 2, 9)
            image() = 4
            0..3: load(#, 0, 999)
            0..3: load(#, 1, 999)
            0..3: load(#, 2, 1)
            back() = 4
            0..3: told(#, 2) = #
            0..3: told(#, 3) = #
            0..2: told(#, 4) = 2
            told(3, 4) = 9
            """);
        THE.holds("AN IMAGE keeps WIND, HOUR", """
            set(0, -5)
            set(1, 0)
            image()
            set(0, 5)
            set(1, 23)
            back()
            count(2) = -5
            count(3) = 0
            """);
        THE.holds("AN IMAGE keeps WHO FLIES", """
            0..3: plane(0, 0)
            set(2, 3)
            image()
            set(2, 0)
            back()
            count(4) = 3
            set(2, -1)
            image()
            set(2, 2)
            back()
            count(4) = NONE
            """);
        THE.holds("AN IMAGE keeps THE LAW", """
            law "sees 1;drifts 0;frosts 0;"
            image()
            force(0)
            back()
            count(6) = 1
            force(0)
            image()
            force(1)
            back()
            count(6) = 0
            """);
    }

    private static void planesSince() {
        THE.holds("35: PLANES that came since are none", """
            plane(1, 2)
            image() = 1
            1..3: plane(5, 5)
            set(2, 3)
            back() = 1
            count(0) = 1
            count(4) = 0
            told(0, 0) = 1
            told(0, 1) = 2
            1..3: told(#, 0) = -5
            1..3: load(#, 0, 1) = -5
            1..3: taken(#, 5) = -11
            asks(0, 1, 0, 0) = -1000
            """);
        THE.holds("35: another PLANE comes then, as each does", """
            plane(1, 2)
            image()
            plane(5, 5)
            load(1, 0, 7)
            load(1, 1, 7)
            load(1, 2, 7)
            back() = 1
            plane(0, 9) = 1
            told(1, 0) = 0
            told(1, 1) = 9
            told(1, 2) = 300
            told(1, 3) = 200
            told(1, 4) = 2
            plane(0, 0) = 2
            plane(0, 0) = 3
            plane(0, 0) = FULL
            """);
        THE.holds("35: all PLANES came since: none flies", """
            image() = 0
            plane(0, 0)
            count(4) = 0
            back() = 0
            count(0) = 0
            count(4) = NONE
            who(0) = NONE
            """);
    }

    private static void image() {
        THE.holds("34: how many PLANES", """
            image() = 0
            plane(0, 0)
            image() = 1
            1..3: plane(0, 0)
            image() = 4
            back() = 4
            """);
        THE.holds("35: STATE: there is none", """
            back() = STATE
            plane(0, 0)
            strips 3
            back() = STATE
            count(0) = 1
            count(1) = 1
            """);
        THE.holds("34: it stays as it is, however often one comes back", """
            set(0, 3)
            image()
            set(0, 4)
            back()
            count(2) = 3
            set(0, 5)
            land(3, 0, 3)
            back()
            count(2) = 3
            mile(3, 0) = 0
            """);
        THE.holds("34: a newer one is kept instead", """
            set(0, 3)
            image()
            set(0, 4)
            image()
            set(0, 5)
            back()
            count(2) = 4
            """);
        THE.holds("34: what is asked doesn't change it", """
            plane(0, 0)
            strips 3 4
            image()
            spare(0) = NONE
            again(0) = 8
            apart(0, 0, 0, 0) = 9
            begin(1, 0) = 0
            who(0) = 0
            when(0) = 10
            drawn(0, 50)
            back() = 1
            count(1) = 2
            count(3) = 10
            planned(1) = 4
            mile(0, 1) = 0
            """);
    }

    private static void whatNoImageKeeps() {
        THE.holds("AN IMAGE keeps no TEXTS", """
            plane(0, 0)
            image()
            law "sees 7;drifts 0;frosts 0;"
            back()
            count(5) = 2
            force(1) = 0
            asks(0, 0, 0, 0) = 7
            """);
        THE.holds("AN IMAGE doesn't keep THE TAPE", """
            feed(2, 115, 101, 0, 0, 0)
            image()
            feed(2, 101, 115, 0, 0, 0)
            back()
            count(7) = 4
            text " 1;drifts 1;frosts 1;" = 1
            """);
        THE.holds("AN IMAGE keeps no SHEETS", """
            ints 0: 5 7
            image()
            ints 0: 6 8
            bytes 1: 1 2 3
            back()
            landBy(0, 2, 0, 1) = 1
            mile(6, 0) = 8
            cell(1, 2, 0) = 1
            """);
    }
}
