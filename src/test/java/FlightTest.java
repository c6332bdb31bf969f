/** Promises 16 to 18: flight, seen, gap; and how kinds see, drift and take time. */
public final class FlightTest {
    private static final Checks CHECKS = new Checks("a flight");

    public static void main(String[] args) {
        nothingFlown();
        oneStrip();
        theOtherWays();
        theDrift();
        driftsOfKinds();
        whereTheDriftIsAsked();
        howFarKindsSee();
        whereTheSightIsAsked();
        fuel();
        turns();
        film();
        every();
        hours();
        frosts();
        clicksSoFar();
        clouds();
        gaps();
        CHECKS.end();
    }

    private static void flies(String what, StripsFromAbove x, int... all) {
        for (int i = 0; i < all.length; i++) {
            CHECKS.due(what + ": flight(" + i + ")", x.flight(i), all[i]);
        }
    }

    /** What seen() answers of all miles: as often as told in a picture of 16 rows of 12 signs. */
    private static void looks(String what, StripsFromAbove x, String... rows) {
        for (int m = 0; m < 192; m++) {
            int want = rows[Math.min(m / 12, rows.length - 1)].charAt(m % 12) - '0';
            CHECKS.due(what + ": seen(" + m + ")", x.seen(m), want);
        }
    }

    private static void nothingFlown() {
        StripsFromAbove x = Checks.withStrips(new StripsFromAbove(), 3, 204);
        flies("no plane", x, 0, 0, 192, 0, 0, 0, 0);
        x.plane(0, 0);
        x.set(2, -1);
        flies("none flies", x, 0, 0, 192, 0, 0, 0, 0);
        flies("no strips", Checks.withPlane(0, 0), 0, 0, 192, 0, 0, 0, 0);
        CHECKS.due("flight(-1)", x.flight(-1), -2);
        CHECKS.due("flight(7)", x.flight(7), -2);
        CHECKS.due("seen(-1)", x.seen(-1), -5);
        CHECKS.due("seen(192)", x.seen(192), -5);
    }

    private static void oneStrip() {
        StripsFromAbove x = Checks.withStrips(Checks.withPlane(0, 0), 3);
        flies("along 3", x, 112, 49, 80, 8, 0, 16, 1);
        looks("along 3", x, "111111100000", "222222200000", "111111100000", "222222200000", "111111100000",
            "222222200000", "111111100000", "222222200000", "111111100000", "222222200000", "111111100000",
            "222222200000", "111111100000", "222222200000", "111111100000", "111111100000");
    }

    private static void theOtherWays() {
        StripsFromAbove x = Checks.withStrips(Checks.withPlane(0, 0), 109);
        flies("along 9, back", x, 96, 42, 96, 8, 0, 16, 1);
        looks("along 9, back", x, "000000111111", "000000111111", "000000222222", "000000111111", "000000222222",
            "000000111111", "000000222222", "000000111111", "000000222222", "000000111111", "000000222222",
            "000000111111", "000000222222", "000000111111", "000000222222", "000000111111");
        String none = "000000000000";
        StripsFromAbove y = Checks.withStrips(Checks.withPlane(0, 0), 201);
        flies("across 1", y, 60, 25, 132, 6, 0, 12, 1);
        String across = "121212121211";
        looks("across 1", y, across, across, across, across, across, none);
        StripsFromAbove z = Checks.withStrips(Checks.withPlane(0, 0), 315);
        flies("across 15, back", z, 48, 20, 144, 6, 0, 12, 1);
        String back = "112121212121";
        looks("across 15, back", z, none, none, none, none, none, none, none, none, none, none, none, none, back, back,
            back, back);
    }

    /** A law by which a click sees its own column (along) or row (across) alone. */
    private static StripsFromAbove narrow(int kind, int more, String drifts) {
        StripsFromAbove x = Checks.withPlane(kind, more);
        Checks.law(x, "sees 0;drifts " + drifts + ";frosts 0;");
        return x;
    }

    private static void theDrift() {
        StripsFromAbove x = Checks.withStrips(narrow(0, 0, "wind"), 3);
        x.set(0, 5);
        // Clicks over columns 3 3 4 4 5 6 6 7, in rows 0, 2 and so on, each in its row and one ahead and behind.
        looks("wind 5", x, "000100000000", "000200000000", "000100000000", "000110000000", "000010000000",
            "000020000000", "000010000000", "000011000000", "000001000000", "000001100000", "000000100000",
            "000000200000", "000000100000", "000000110000", "000000010000", "000000010000");
        flies("wind 5", x, 20, 3, 172, 8, 0, 16, 1);
        StripsFromAbove y = Checks.withStrips(narrow(0, 0, "wind"), 0);
        y.set(0, -3);
        // Clicks over columns 0 0 0 -1 -1 -1 -2 -2.
        looks("wind -3", y, "100000000000", "200000000000", "100000000000", "200000000000", "100000000000",
            "100000000000", "000000000000");
        flies("wind -3", y, 6, 2, 186, 8, 5, 16, 1);
        StripsFromAbove z = Checks.withStrips(narrow(0, 0, "9"), 315);
        // Clicks over rows 15 16 18 19 21 22, the first of them over column 11.
        flies("across, out of the country", z, 2, 0, 190, 6, 5, 12, 1);
        CHECKS.due("seen(190)", z.seen(190), 1);
        CHECKS.due("seen(191)", z.seen(191), 1);
    }

    /** Over which column the click in row 15 is, of a strip along column 9. */
    private static int endColumn(int kind, int more, int said) {
        StripsFromAbove x = narrow(kind, more, "" + said);
        x.load(0, 2, 5);
        Checks.withStrips(x, 9);
        int found = -1;
        for (int column = 0; column < 12; column++) {
            found = x.seen(12 * 15 + column) > 0 ? column : found;
        }
        // A HIGH sees 1 to either side, though the text says 0.
        return kind == 2 ? found - 1 : found;
    }

    private static void driftsOfKinds() {
        // The click over row 15 is aside by DRIFTS times 15 by 16, cut toward 0.
        int[][] rows = {
            // kind, more, what the text says, DRIFTS
            {0, 9, -9, -9}, {0, 9, -1, -1}, {1, 9, -9, -4}, {1, 0, -8, -4}, {1, 0, -1, 0}, {2, 9, -7, -7}, {4, 9, -7, -7},
            {3, 0, -9, -4}, {3, 4, -9, -2}, {3, 9, -9, 0}, {3, 5, -6, -1}, {3, 9, -1, 0}, {3, 2, -1, 0},
            {5, 0, -6, -6}, {5, 3, -6, -8}, {5, 4, -2, -2}, {5, 5, -2, -3}, {5, 8, -1, -1}, {5, 9, -1, -2}, {5, 1, -8, -8},
            {5, 9, -4, -8}, {1, 0, 2, 1}, {3, 0, 4, 2}, {3, 2, 4, 1}, {3, 9, 4, 0}, {3, 9, 1, 0}, {5, 9, 1, 2},
            {3, 9, 0, 0}, {5, 9, 0, 0}, {1, 9, 0, 0}, {5, 3, 2, 2}, {5, 5, 2, 3},
        };
        for (int[] r : rows) {
            CHECKS.due("kind " + r[0] + ", more " + r[1] + ", said " + r[2], endColumn(r[0], r[1], r[2]), 9 + r[3] * 15 / 16);
        }
    }

    private static void whereTheDriftIsAsked() {
        StripsFromAbove x = narrow(0, 0, "hill");
        x.load(0, 2, 5);
        x.land(2, 0, 4);
        Checks.withStrips(x, 2);
        CHECKS.due("of the MILE of STEP 0, forward", x.seen(12 * 15 + 5), 1);
        x.drop(0);
        Checks.withStrips(x, 102);
        CHECKS.due("of the MILE of STEP 0, back: not there", x.seen(2), 1);
        x.land(12 * 15 + 2, 0, 4);
        CHECKS.due("of the MILE of STEP 0, back", x.seen(5), 1);
        x.drop(0);
        x.land(12 * 4, 0, 8);
        x.land(12 * 4 + 11, 0, 4);
        Checks.withStrips(x, 204);
        CHECKS.due("across, forward: 8 times 10 by 12 aside", x.seen(12 * 10 + 10), 1);
        x.drop(0);
        Checks.withStrips(x, 304);
        CHECKS.due("across, back: 4 times 10 by 12 aside", x.seen(12 * 7 + 1), 1);
        StripsFromAbove y = narrow(0, 0, "clicks - 3");
        y.load(0, 2, 5);
        Checks.withStrips(y, 6, 6);
        // The first strip drifts by -3, its last click 2 aside; the second one by 1 (4 CLICKS so far), its last 0 aside.
        CHECKS.due("of CLICKS so far, the first strip", y.seen(12 * 15 + 4), 1);
        CHECKS.due("of CLICKS so far, the second strip", y.seen(12 * 15 + 6), 1);
    }

    private static int seesBoth(int kind, int more, int said) {
        StripsFromAbove x = Checks.withPlane(kind, more);
        Checks.law(x, "sees " + said + ";drifts 0;frosts 0;");
        Checks.withStrips(x, 200);
        int rows = 0;
        for (int y = 0; y < 16; y++) {
            rows += x.seen(12 * y) > 0 ? 1 : 0;
        }
        return rows - 1;
    }

    private static void howFarKindsSee() {
        int[] said = {0, 1, 5, 9};
        for (int s : said) {
            CHECKS.due("PLANE sees " + s, seesBoth(0, 9, s), s);
            CHECKS.due("QUICK sees " + s, seesBoth(1, 9, s), s);
            CHECKS.due("HIGH sees " + s, seesBoth(2, 9, s), s + 1);
            CHECKS.due("STEADY sees " + s, seesBoth(3, 9, s), s);
            CHECKS.due("OLD sees " + s, seesBoth(5, 9, s), s);
            for (int more = 0; more <= 9; more++) {
                CHECKS.due("WIDE sees " + s + ", more " + more, seesBoth(4, more, s), s == 0 ? 0 : s + 1 + more / 4);
            }
        }
    }

    private static void whereTheSightIsAsked() {
        StripsFromAbove x = Checks.withPlane(0, 0);
        x.load(0, 2, 8);
        x.land(5, 0, 3);
        x.land(12 * 8 + 5, 0, 2);
        Checks.withStrips(x, 5);
        String none = "000000000000";
        looks("over hills", x, "000001000000", "000001000000", none, none, none, none, none, "000011100000", "000011100000",
            "000011100000", none);
        x.set(0, 5);
        // Borne aside by 2 over row 8: no hill is there.
        looks("beside hills", x, "000001000000", "000001000000", none, none, none, none, none, "000011111110",
            "000011111110", "000011111110", none);
    }

    private static void fuel() {
        StripsFromAbove x = Checks.withStrips(Checks.withPlane(0, 0), 3);
        x.load(0, 0, 0);
        flies("no fuel", x, 0, 0, 192, 0, 0, 0, 0);
        x.load(0, 0, 1);
        flies("fuel for a mile", x, 14, 0, 178, 1, 0, 1, 0);
        x.load(0, 0, 15);
        flies("fuel 15", x, 112, 49, 80, 8, 0, 15, 0);
        x.load(0, 0, 16);
        flies("fuel 16", x, 112, 49, 80, 8, 0, 16, 1);
        StripsFromAbove high = Checks.withStrips(Checks.withPlane(2, 0), 3);
        high.load(0, 0, 31);
        flies("HIGH, fuel 31", high, 128, 56, 64, 8, 0, 30, 0);
        high.load(0, 0, 32);
        flies("HIGH, fuel 32", high, 128, 56, 64, 8, 0, 32, 1);
    }

    private static void turns() {
        int[] minutes = {16 + 4 + 12, 16 + 9 + 12, 32 + 8 + 24, 16 + 9 + 12, 32 + 8 + 24, 32 + 5 + 24};
        for (int kind = 0; kind < 6; kind++) {
            StripsFromAbove x = Checks.withStrips(Checks.withPlane(kind, 9), 3, 305);
            CHECKS.due("two strips of kind " + kind, x.flight(5), minutes[kind]);
            CHECKS.due("both flown to their end", x.flight(6), 2);
            x.load(0, 0, minutes[kind] - 1);
            CHECKS.due("fuel for all but a mile of kind " + kind, x.flight(6), 1);
        }
        StripsFromAbove x = Checks.withStrips(Checks.withPlane(0, 0), 3, 3, 3);
        x.load(0, 0, 17);
        flies("a TURN takes its minutes, fuel or no fuel", x, 112, 49, 80, 8, 0, 20, 1);
        x.load(0, 0, 20);
        flies("fuel till the TURN", x, 112, 49, 80, 8, 0, 20, 1);
        x.load(0, 0, 21);
        flies("fuel for a mile behind the TURN", x, 112, 56, 80, 9, 0, 21, 1);
    }

    private static void film() {
        StripsFromAbove x = Checks.withStrips(Checks.withPlane(0, 0), 3);
        x.load(0, 1, 0);
        flies("no film", x, 0, 0, 192, 0, 0, 16, 1);
        x.load(0, 1, 2);
        flies("film 2", x, 28, 7, 164, 2, 0, 16, 1);
        x.load(0, 1, 8);
        flies("film 8", x, 112, 49, 80, 8, 0, 16, 1);
        StripsFromAbove y = Checks.withStrips(narrow(0, 0, "wind"), 0);
        y.set(0, -3);
        y.load(0, 1, 5);
        flies("lost clicks need film, too", y, 6, 2, 186, 5, 2, 16, 1);
    }

    private static void every() {
        int[] along = {16, 8, 6, 4, 4, 3, 3, 2, 2};
        int[] across = {12, 6, 4, 3, 3, 2, 2, 2, 2};
        StripsFromAbove x = Checks.withStrips(Checks.withPlane(0, 0), 3);
        StripsFromAbove y = Checks.withStrips(Checks.withPlane(0, 0), 203);
        StripsFromAbove both = Checks.withStrips(Checks.withPlane(0, 0), 3, 303);
        for (int every = 1; every <= 9; every++) {
            x.load(0, 2, every);
            y.load(0, 2, every);
            both.load(0, 2, every);
            CHECKS.due("along, every " + every, x.flight(3), along[every - 1]);
            CHECKS.due("across, every " + every, y.flight(3), across[every - 1]);
            CHECKS.due("each strip begins with a click, every " + every, both.flight(3), along[every - 1] + across[every - 1]);
        }
    }

    private static void hours() {
        StripsFromAbove x = Checks.withStrips(Checks.withPlane(0, 0), 3);
        int[] lostAt = {8, 8, 8, 8, 8, 8, 8, 8, 8, 8, 0, 0, 0, 0, 8, 8, 8, 8, 8, 8, 8, 8, 8, 8};
        for (int hour = 0; hour < 24; hour++) {
            x.set(1, hour);
            CHECKS.due("lost at hour " + hour, x.flight(4), lostAt[hour]);
            CHECKS.due("covered at hour " + hour, x.flight(0), lostAt[hour] == 0 ? 112 : 0);
        }
        StripsFromAbove y = Checks.withStrips(Checks.withPlane(2, 0), 3, 104);
        y.load(0, 2, 1);
        // Step i of the second strip ends at minute 42 and 2 times i: the hour is full with step 9.
        y.set(1, 9);
        flies("from the full hour on", y, 72, 63, 120, 32, 25, 72, 2);
        y.set(1, 13);
        CHECKS.due("till the full hour", y.flight(4), 7);
        y.set(1, 23);
        y.load(0, 0, 999);
        for (int k = 2; k < 12; k++) {
            y.strip(0, k);
        }
        CHECKS.due("the next day is no hour of light", y.flight(4), y.flight(3));
    }

    private static void frosts() {
        StripsFromAbove x = Checks.withPlane(0, 0);
        Checks.law(x, "sees 3;drifts 0;frosts 3;");
        x.load(0, 2, 1);
        for (int k = 0; k < 12; k++) {
            x.strip(k % 2, 5);
        }
        CHECKS.due("192 clicks", x.flight(3), 192);
        CHECKS.due("3 of each 100", x.flight(4), 6);
        x.load(0, 1, 102);
        CHECKS.due("two of the second 100", x.flight(4), 5);
        x.load(0, 1, 100);
        CHECKS.due("100 clicks", x.flight(4), 3);
        StripsFromAbove y = Checks.withStrips(Checks.withPlane(0, 0), 3);
        Checks.law(y, "sees 3;drifts 0;frosts hill * 100;");
        y.land(12 * 4 + 3, 0, 1);
        y.land(12 * 5 + 3, 0, 1);
        y.land(12 * 6 + 2, 0, 1);
        flies("of that MILE", y, 105, 35, 87, 8, 1, 16, 1);
        StripsFromAbove z = Checks.withStrips(Checks.withPlane(0, 0), 3);
        Checks.law(z, "sees 3;drifts 0;frosts clicks = 3;");
        // The third click has two ahead of it, and two are not below 1.
        CHECKS.due("the first of 100 alone", z.flight(4), 0);
        Checks.law(z, "sees 3;drifts 0;frosts clicks = 1;");
        CHECKS.due("that one, too", z.flight(4), 1);
        Checks.law(z, "sees 3;drifts 0;frosts clicks;");
        CHECKS.due("each has one less ahead", z.flight(4), 8);
        Checks.law(z, "sees 3;drifts 0;frosts clicks - 1;");
        CHECKS.due("each has as many ahead", z.flight(4), 0);
    }

    private static void clicksSoFar() {
        StripsFromAbove x = Checks.withPlane(0, 0);
        Checks.law(x, "sees clicks;drifts 0;frosts 0;");
        x.load(0, 2, 5);
        Checks.withStrips(x, 5);
        String none = "000000000000";
        looks("sees by clicks", x, "000011100000", "000011100000", none, none, "000111110000", "000111110000",
            "000111110000", none, none, "001111111000", "001111111000", "001111111000", none, none, "011111111100",
            "011111111100");
        StripsFromAbove y = Checks.withStrips(narrow(0, 0, "9"), 11, 0);
        Checks.law(y, "sees clicks = 9;drifts (clicks = 0) * 9;frosts 0;");
        CHECKS.due("lost clicks are clicks", y.flight(4), 7);
        CHECKS.due("the ninth click sees aside", y.seen(1), 1);
        CHECKS.due("the tenth does not", y.seen(25), 0);
    }

    private static void clouds() {
        StripsFromAbove x = Checks.withStrips(Checks.withPlane(0, 0), 3);
        x.land(12 + 3, 1, 1);
        x.land(12 * 15 + 6, 1, 1);
        x.land(11, 1, 1);
        flies("under clouds", x, 110, 48, 82, 8, 0, 16, 1);
        CHECKS.due("a cloud", x.seen(15), 0);
        CHECKS.due("beside it", x.seen(16), 2);
        x.land(15, 1, 0);
        CHECKS.due("no cloud", x.seen(15), 2);
    }

    private static void gaps() {
        StripsFromAbove x = Checks.withStrips(Checks.withPlane(0, 0), 3);
        x.land(0, 1, 1);
        int[] first = {0, 7, 8, 9, 10, 11, 19};
        for (int k = 0; k < first.length; k++) {
            CHECKS.due("gap(" + k + ")", x.gap(k), first[k]);
        }
        CHECKS.due("the last gap", x.gap(80), 191);
        CHECKS.due("gap(81)", x.gap(81), -1);
        CHECKS.due("gap(191)", x.gap(191), -1);
        CHECKS.due("gap(192)", x.gap(192), -7);
        CHECKS.due("gap(-1)", x.gap(-1), -7);
        StripsFromAbove none = new StripsFromAbove();
        CHECKS.due("gap(191), none flies", none.gap(191), 191);
        CHECKS.due("gap(192), none flies", none.gap(192), -7);
    }
}
