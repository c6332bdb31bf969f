/** Promises 32 to 35: drawn, odds, image, back. */
public final class CloudsTest {
    private static final Checks CHECKS = new Checks("clouds by lots, images");
    private static final long NO = -4611686018427387904L;

    public static void main(String[] args) {
        drawn();
        odds();
        wrongOdds();
        image();
        imageOfPlanes();
        whatNoImageKeeps();
        CHECKS.end();
    }

    /** Row 0 is covered, and no other, by as many clicks. */
    private static StripsFromAbove firstRow(int clicks) {
        StripsFromAbove x = Checks.withPlane(0, 0);
        Checks.law(x, "sees 0;drifts 0;frosts 0;");
        x.load(0, 1, clicks);
        return Checks.withStrips(x, 200);
    }

    private static void drawn() {
        StripsFromAbove x = firstRow(200);
        // The lots of seed 0, modulo 100, of the first row: 71 94 86 37 41 83 61 5 91 31 71 7.
        int[][] covered = {{0, 12}, {5, 12}, {6, 11}, {7, 11}, {8, 10}, {50, 7}, {71, 6}, {72, 4}, {94, 1}, {95, 0}, {100, 0}};
        for (int[] c : covered) {
            CHECKS.due("drawn(0, " + c[0] + ")", x.drawn(0, c[0]), c[1]);
        }
        x.land(0, 1, 1);
        x.land(5, 1, 1);
        CHECKS.due("instead of all CLOUDS", x.drawn(0, 0), 12);
        CHECKS.due("the clouds stay", x.flight(0), 10);
        CHECKS.due("the least cloud stays", x.mile(0, 1), 1);
        CHECKS.due("no cloud came", x.mile(7, 1), 0);
        StripsFromAbove y = firstRow(1);
        // The first two lots of seed 99999: 532132706 and that times 48271 modulo 2147483647.
        long second = 532132706L * 48271 % 2147483647 % 100;
        CHECKS.due("drawn(99999, 6)", y.drawn(99999, 6), second < 6 ? 1 : 2);
        CHECKS.due("drawn(99999, 7)", y.drawn(99999, 7), second < 7 ? 0 : 1);
        CHECKS.due("drawn(-1, 0)", x.drawn(-1, 0), -2);
        CHECKS.due("drawn(100000, 0)", x.drawn(100000, 0), -2);
        CHECKS.due("drawn(0, -1)", x.drawn(0, -1), -2);
        CHECKS.due("drawn(0, 101)", x.drawn(0, 101), -2);
        CHECKS.due("none flies", new StripsFromAbove().drawn(0, 0), 0);
    }

    private static void odds() {
        StripsFromAbove x = firstRow(1);
        // Two miles; the first lots of seeds 0 to 3: 71 94, 42 88, 13 82, 84 76.
        long[][] rows = {
            // seed, days, odds, miles, above, below
            {0, 4, 50, 2, 1, 2}, {0, 3, 50, 2, 1, 3}, {0, 4, 50, 1, 1, 1}, {0, 3, 50, 3, 0, 1}, {0, 1, 50, 2, 1, 1},
            {1, 1, 50, 2, 0, 1}, {1, 3, 50, 2, 1, 3}, {0, 3, 43, 2, 1, 3}, {0, 3, 42, 2, 2, 3}, {0, 4, 13, 2, 1, 1},
            {0, 4, 14, 2, 3, 4}, {0, 4, 90, 1, 1, 4}, {0, 12, 0, 2, 1, 1}, {0, 12, 100, 1, 0, 1}, {0, 12, 100, 0, 1, 1},
            {99999, 12, 0, 2, 1, 1}, {99999, 12, 0, 3, 0, 1}, {99999, 1, 6, 1, 1, 1},
        };
        for (long[] r : rows) {
            for (int part = 0; part < 2; part++) {
                long got = x.odds((int) r[0], (int) r[1], (int) r[2], (int) r[3], part);
                CHECKS.due("odds(" + r[0] + ", " + r[1] + ", " + r[2] + ", " + r[3] + ", " + part + ")", got, r[4 + part]);
            }
        }
        CHECKS.due("seed 100000", x.odds(99999, 2, 50, 2, 1), bothClear(100000, 50) == bothClear(100001, 50) ? 1 : 2);
        x.land(0, 1, 1);
        CHECKS.due("instead of all CLOUDS", x.odds(0, 1, 0, 2, 0), 1);
        CHECKS.due("the cloud stays", x.flight(0), 1);
        CHECKS.due("none flies", new StripsFromAbove().odds(0, 3, 0, 1, 1), 1);
    }

    private static boolean bothClear(long first, int odds) {
        long lot = first * 48271 % 2147483647;
        return lot % 100 >= odds && lot * 48271 % 2147483647 % 100 >= odds;
    }

    private static void wrongOdds() {
        StripsFromAbove x = firstRow(1);
        int[][] wrong = {{-1, 1, 0, 0, 0}, {100000, 1, 0, 0, 0}, {0, 0, 0, 0, 0}, {0, 13, 0, 0, 0}, {0, 1, -1, 0, 0},
            {0, 1, 101, 0, 0}, {0, 1, 0, -1, 0}, {0, 1, 0, 193, 0}, {0, 1, 0, 0, -1}, {0, 1, 0, 0, 2}};
        for (int[] w : wrong) {
            CHECKS.due("odds, wrong", x.odds(w[0], w[1], w[2], w[3], w[4]), NO);
        }
        CHECKS.due("odds, the most", x.odds(99999, 12, 100, 192, 1), 1);
    }

    private static void image() {
        StripsFromAbove x = firstRow(5);
        CHECKS.due("no image yet", x.back(), -3);
        x.land(7, 0, 3);
        x.land(8, 1, 1);
        x.strip(1, 9);
        x.load(0, 0, 100);
        x.load(0, 2, 3);
        x.set(0, 2);
        x.set(1, 11);
        CHECKS.due("image()", x.image(), 1);
        for (int round = 0; round < 2; round++) {
            x.land(7, 0, 9);
            x.land(9, 0, 9);
            x.land(8, 1, 0);
            x.land(10, 1, 1);
            x.drop(0);
            x.strip(2, 3);
            x.strip(2, 4);
            x.load(0, 0, 1);
            x.load(0, 1, 2);
            x.load(0, 2, 4);
            x.set(0, -2);
            x.set(1, 22);
            x.set(2, -1);
            x.force(0);
            CHECKS.due("back(), round " + round, x.back(), 1);
            int[] got = {x.mile(7, 0), x.mile(9, 0), x.mile(8, 1), x.mile(10, 1), x.count(1), x.planned(0), x.planned(1),
                x.told(0, 2), x.told(0, 3), x.told(0, 4), x.count(2), x.count(3), x.count(4), x.count(6)};
            int[] due = {3, 0, 1, 0, 2, 200, 109, 100, 5, 3, 2, 11, 0, 1};
            for (int i = 0; i < due.length; i++) {
                CHECKS.due("as in the image, " + i, got[i], due[i]);
            }
        }
        x.set(0, 5);
        CHECKS.due("image() anew", x.image(), 1);
        x.set(0, 0);
        x.back();
        CHECKS.due("the newer image", x.count(2), 5);
    }

    private static void imageOfPlanes() {
        StripsFromAbove x = Checks.withPlane(1, 2);
        x.plane(2, 3);
        x.set(2, 1);
        CHECKS.due("image() of two", x.image(), 2);
        x.plane(3, 4);
        x.plane(4, 5);
        x.load(2, 0, 7);
        x.load(3, 2, 7);
        x.set(2, 3);
        CHECKS.due("back() to two", x.back(), 2);
        CHECKS.due("WHO FLIES", x.count(4), 1);
        CHECKS.due("no PLANE 2", x.told(2, 0), -5);
        CHECKS.due("PLANE 1", x.told(1, 0), 2);
        CHECKS.due("another PLANE 2", x.plane(5, 9), 2);
        int[] all = {5, 9, 300, 200, 2, 2, 5};
        for (int what = 0; what < all.length; what++) {
            CHECKS.due("told(2, " + what + ")", x.told(2, what), all[what]);
        }
        CHECKS.due("room for PLANE 3", x.plane(0, 0), 3);
        CHECKS.due("no room for more", x.plane(0, 0), -4);
        StripsFromAbove none = new StripsFromAbove();
        CHECKS.due("image() of none", none.image(), 0);
        none.plane(0, 0);
        none.set(2, -1);
        CHECKS.due("back() to none", none.back(), 0);
        CHECKS.due("none flies", none.count(4), -1);
        CHECKS.due("PLANE 0 comes", none.plane(0, 0), 0);
        CHECKS.due("and flies", none.count(4), 0);
    }

    private static void whatNoImageKeeps() {
        StripsFromAbove x = new StripsFromAbove();
        Checks.tell(x, 0, 4, 5);
        x.feed(2, 32, 32, 32, 32, 32);
        x.image();
        Checks.feed(x, "sees 2;drifts 0;frosts 0;");
        x.text();
        Checks.feed(x, "sees");
        x.cell(0, 1, 8);
        x.sheet(1, 0, 3);
        x.force(1);
        x.back();
        CHECKS.due("TEXTS", x.count(5), 2);
        CHECKS.due("THE TAPE", x.count(7), 4);
        CHECKS.due("THE LAW", x.count(6), 0);
        CHECKS.due("a SHEET's numbers", x.landBy(0, 2, 0, 1), 1);
        CHECKS.due("the newer one", x.mile(4, 0), 8);
        CHECKS.due("a SHEET that came", x.cell(1, 2, 0), 1);
        CHECKS.due("TEXT 1", x.force(1), 0);
    }
}
