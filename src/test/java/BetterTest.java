/** Promises 19 to 26: spare, again, apart, begin, seldom, who, when, tuft. */
public final class BetterTest {
    private static final Checks CHECKS = new Checks("what would be better");

    public static void main(String[] args) {
        refusals();
        noneFlies();
        spare();
        again();
        apart();
        plannedForwardAndBack();
        begin();
        seldom();
        who();
        when();
        tuft();
        CHECKS.end();
    }

    /** A PLANE that sees one column, or row, to either side, and does not drift. */
    private static StripsFromAbove nearSighted(int... strips) {
        StripsFromAbove x = Checks.withPlane(0, 0);
        Checks.law(x, "sees 1;drifts 0;frosts 0;");
        return Checks.withStrips(x, strips);
    }

    private static void refusals() {
        StripsFromAbove[] both = {new StripsFromAbove(), nearSighted(3)};
        for (StripsFromAbove x : both) {
            for (int what : new int[] {-1, 2}) {
                CHECKS.due("spare, what", x.spare(what), -2);
                CHECKS.due("again, what", x.again(what), -2);
                CHECKS.due("apart, what", x.apart(0, 0, 0, what), -2);
                CHECKS.due("begin, what", x.begin(1, what), -2);
                CHECKS.due("seldom, what", x.seldom(what), -2);
                CHECKS.due("who, what", x.who(what), -2);
                CHECKS.due("when, what", x.when(what), -2);
                CHECKS.due("tuft, what", x.tuft(what), -2);
                CHECKS.due("apart, across", x.apart(what, 0, 0, 0), -2);
            }
            CHECKS.due("apart, from below", x.apart(1, -1, 0, 0), -2);
            CHECKS.due("apart, from above", x.apart(1, 10, 0, 0), -2);
            CHECKS.due("apart, miles below", x.apart(0, 0, -1, 0), -2);
            CHECKS.due("apart, miles above", x.apart(0, 0, 193, 0), -2);
            CHECKS.due("begin, apart below", x.begin(0, 0), -2);
            CHECKS.due("begin, apart above", x.begin(10, 0), -2);
        }
    }

    private static void noneFlies() {
        StripsFromAbove x = Checks.withStrips(new StripsFromAbove(), 203, 3);
        int[] got = {x.spare(0), x.spare(1), x.again(0), x.again(1), x.apart(1, 9, 0, 0), x.apart(1, 9, 0, 1),
            x.apart(1, 9, 1, 0), x.apart(1, 9, 1, 1), x.begin(9, 0), x.begin(9, 1), x.seldom(0), x.seldom(1), x.who(0),
            x.who(1), x.when(0), x.when(1), x.tuft(0), x.tuft(1)};
        int[] due = {0, 0, -1, 0, 9, 0, -1, -1, 0, 0, -1, -1, -1, -1, 0, 0, -1, 0};
        for (int i = 0; i < due.length; i++) {
            CHECKS.due("none flies, " + i, got[i], due[i]);
        }
        CHECKS.due("no strips to spare", new StripsFromAbove().spare(0), -1);
        CHECKS.due("no strips to spare, minutes", new StripsFromAbove().spare(1), -1);
    }

    private static void spare() {
        StripsFromAbove x = nearSighted(1, 4, 7, 10);
        CHECKS.due("all are needed", x.spare(0), -1);
        CHECKS.due("all are needed, minutes", x.spare(1), -1);
        x.strip(0, 5);
        CHECKS.due("the fifth is not", x.spare(0), 4);
        CHECKS.due("minutes without it", x.spare(1), 4 * 16 + 3 * 4);
        CHECKS.due("it stays", x.count(1), 5);
        x.strip(1, 1);
        CHECKS.due("of two the first", x.spare(0), 0);
        CHECKS.due("minutes without the first", x.spare(1), 5 * 16 + 4 * 4);
        StripsFromAbove y = nearSighted(1, 204);
        y.load(0, 0, 16);
        CHECKS.due("what isn't flown is to spare", y.spare(0), 1);
        CHECKS.due("no TURN then", y.spare(1), 16);
        StripsFromAbove z = nearSighted(203, 1);
        z.load(0, 0, 16);
        CHECKS.due("more would be covered", z.spare(0), 0);
        CHECKS.due("minutes then", z.spare(1), 16);
    }

    private static void again() {
        StripsFromAbove x = nearSighted(1, 4, 7);
        CHECKS.due("the fourth", x.again(0), 10);
        CHECKS.due("all", x.again(1), 192);
        x.load(0, 0, 3 * 16 + 3 * 4 + 6);
        CHECKS.due("fuel for six steps more", x.again(0), 10);
        CHECKS.due("six rows of it", x.again(1), 144 + 18);
        for (int m = 9; m < 48; m += 12) {
            x.land(m, 1, 1);
            x.land(m + 1, 1, 1);
            x.land(m + 2, 1, 1);
        }
        CHECKS.due("under clouds it goes back", x.again(0), 110);
        CHECKS.due("six rows of that", x.again(1), 144 + 18);
        StripsFromAbove y = nearSighted(1, 4, 7, 9);
        CHECKS.due("of like ones the first WAY", y.again(0), 10);
        y.drop(3);
        y.drop(2);
        CHECKS.due("of like ones the first LINE", y.again(0), 7);
        CHECKS.due("three columns more", y.again(1), 144);
        StripsFromAbove all = nearSighted(1, 4, 7, 10);
        CHECKS.due("nothing more to cover", all.again(0), -1);
        CHECKS.due("as now", all.again(1), 192);
        StripsFromAbove eleven = nearSighted(1, 1, 1, 1, 1, 1, 1, 1, 1, 1, 1);
        CHECKS.due("room for a twelfth", eleven.again(0), 4);
        CHECKS.due("by so many", eleven.again(1), 96);
        eleven.strip(0, 1);
        CHECKS.due("no room", eleven.again(0), -1);
        CHECKS.due("no room, as now", eleven.again(1), 48);
        StripsFromAbove least = nearSighted(3, 6, 9);
        CHECKS.due("LINE 0 is as good as 1", least.again(0), 0);
        CHECKS.due("by two columns", least.again(1), 176);
        StripsFromAbove across = nearSighted(201, 204, 207, 210);
        across.load(0, 0, 4 * 12 + 4 * 4 + 6);
        for (int m = 0; m < 192; m++) {
            across.land(m, 1, m % 12 < 6 ? 1 : 0);
        }
        // Six steps along cover rows 12 to 15 by going back alone; across, by going back, three rows of six columns.
        CHECKS.due("across, back", across.again(0), 313);
        CHECKS.due("across, back, how many", across.again(1), 12 * 6 + 3 * 6);
        StripsFromAbove rows = nearSighted(201, 204, 207, 210);
        rows.load(0, 0, 999);
        CHECKS.due("across", rows.again(0), 213);
        CHECKS.due("across, how many", rows.again(1), 180);
        StripsFromAbove last = nearSighted(1, 4, 7, 10);
        last.load(0, 0, 4 * 16 + 4 * 4 + 2);
        last.land(15 * 12 + 11, 0, 1);
        last.land(14 * 12 + 10, 0, 0);
        CHECKS.due("no fuel for more", last.again(0), -1);
    }

    private static void apart() {
        StripsFromAbove x = nearSighted(5);
        int[][] rows = {
            // across, from, miles, apart, minutes
            {0, 1, 192, 3, 76}, {0, 1, 145, 3, 76}, {0, 1, 144, 4, 56}, {0, 1, 129, 4, 56}, {0, 1, 128, 5, 56},
            {0, 1, 97, 5, 56}, {0, 1, 96, 9, 36}, {0, 1, 0, 9, 36}, {0, 9, 48, 9, 16}, {0, 9, 49, 2, 36},
            {0, 9, 64, 2, 36}, {0, 9, 65, -1, -1}, {1, 1, 192, 2, 124}, {1, 1, 180, 3, 76}, {1, 9, 96, 3, 44},
            {1, 9, 97, -1, -1}, {1, 9, 60, 6, 28}, {1, 9, 61, 5, 28}, {1, 9, 72, 5, 28}, {1, 9, 73, 3, 44}, {1, 9, 84, 3, 44},
        };
        for (int[] r : rows) {
            String what = "apart(" + r[0] + ", " + r[1] + ", " + r[2] + ", ";
            CHECKS.due(what + "0)", x.apart(r[0], r[1], r[2], 0), r[3]);
            CHECKS.due(what + "1)", x.apart(r[0], r[1], r[2], 1), r[4]);
        }
        CHECKS.due("the STRIPS stay", x.planned(0), 5);
        CHECKS.due("no STRIPS come", x.count(1), 1);
        StripsFromAbove y = Checks.withPlane(0, 0);
        Checks.law(y, "sees 0;drifts 0;frosts 0;");
        CHECKS.due("12 at most", y.apart(1, 0, 144, 0), 1);
        CHECKS.due("12 at most, minutes", y.apart(1, 0, 144, 1), 12 * 12 + 11 * 4);
        CHECKS.due("no thirteenth", y.apart(1, 0, 145, 0), -1);
        CHECKS.due("no thirteenth, minutes", y.apart(1, 0, 145, 1), -1);
        CHECKS.due("12 from LINE 4", y.apart(1, 4, 144, 0), 1);
        CHECKS.due("11 from LINE 5", y.apart(1, 5, 144, 0), -1);
    }

    private static void plannedForwardAndBack() {
        StripsFromAbove x = nearSighted();
        x.load(0, 0, 16 + 4 + 1);
        for (int m = 4; m < 24; m++) {
            x.land(m, 1, m % 12 > 3 ? 1 : 0);
        }
        CHECKS.due("along, the second goes back", x.apart(0, 1, 54, 0), 9);
        StripsFromAbove y = nearSighted();
        y.load(0, 0, 12 + 4 + 1);
        for (int row = 4; row < 16; row++) {
            y.land(12 * row, 1, 1);
            y.land(12 * row + 1, 1, 1);
        }
        CHECKS.due("across, the second goes back", y.apart(1, 1, 42, 0), 9);
    }

    private static void begin() {
        StripsFromAbove x = nearSighted(5, 6);
        CHECKS.due("begin(3, 0)", x.begin(3, 0), 1);
        CHECKS.due("begin(3, 1)", x.begin(3, 1), 192);
        CHECKS.due("begin(9, 0)", x.begin(9, 0), 1);
        CHECKS.due("begin(9, 1)", x.begin(9, 1), 96);
        CHECKS.due("begin(1, 0)", x.begin(1, 0), 0);
        CHECKS.due("begin(1, 1)", x.begin(1, 1), 192);
        CHECKS.due("begin(2, 0)", x.begin(2, 0), 0);
        CHECKS.due("begin(2, 1)", x.begin(2, 1), 192);
        x.load(0, 0, 12);
        CHECKS.due("as many along and across: along", x.begin(9, 0), 1);
        for (int m = 0; m < 12; m++) {
            x.land(m, 1, 1);
        }
        CHECKS.due("across, from 2", x.begin(9, 0), 12);
        CHECKS.due("across, how many", x.begin(9, 1), 36);
        for (int m = 12; m < 192; m++) {
            x.land(m, 1, m / 12 < 10 ? 1 : 0);
        }
        CHECKS.due("from 9 at most", x.begin(9, 0), 19);
        CHECKS.due("from 9, how many", x.begin(9, 1), 12);
        CHECKS.due("the STRIPS stay", x.planned(1), 6);
    }

    private static void seldom() {
        StripsFromAbove x = nearSighted(3);
        CHECKS.due("seldom(0)", x.seldom(0), 3);
        CHECKS.due("seldom(1)", x.seldom(1), 6);
        CHECKS.due("EVERY stays", x.told(0, 4), 2);
        x.load(0, 2, 9);
        CHECKS.due("as seldom as can be", x.seldom(0), 9);
        CHECKS.due("its clicks", x.seldom(1), 2);
        x.load(0, 2, 4);
        // Every 4 covers 11 rows; every 5 covers rows 0 1, 4 to 6, 9 to 11, 14 15.
        CHECKS.due("five covers fewer", x.seldom(0), 4);
        x.load(0, 2, 1);
        CHECKS.due("each mile is too often", x.seldom(0), 3);
        x.load(0, 1, 5);
        // Five clicks, a mile each, cover rows 0 to 5; two clicks cover five rows, every 7 three clicks eight.
        CHECKS.due("with little film", x.seldom(0), 7);
        CHECKS.due("with little film, clicks", x.seldom(1), 3);
        x.load(0, 1, 200);
        Checks.law(x, "sees (row = 1) * 9;drifts 0;frosts 0;");
        CHECKS.due("row 1 is clicked over by EVERY 1 alone", x.seldom(0), 1);
        CHECKS.due("sixteen clicks", x.seldom(1), 16);
        x.set(2, -1);
        CHECKS.due("none flies", x.seldom(0), -1);
        CHECKS.due("none flies, what first", x.seldom(2), -2);
        StripsFromAbove y = Checks.withStrips(Checks.withPlane(0, 0), 3);
        y.plane(0, 0);
        y.load(0, 2, 9);
        y.set(2, 1);
        CHECKS.due("of WHO FLIES", y.seldom(0), 3);
    }

    private static void who() {
        StripsFromAbove x = Checks.withStrips(Checks.withPlane(0, 0), 3);
        CHECKS.due("the only one", x.who(0), 0);
        CHECKS.due("the only one, how many", x.who(1), 112);
        x.plane(2, 0);
        x.plane(2, 9);
        CHECKS.due("who sees more, the first", x.who(0), 1);
        CHECKS.due("how many", x.who(1), 128);
        x.plane(4, 4);
        CHECKS.due("who sees most", x.who(0), 3);
        CHECKS.due("how many then", x.who(1), 144);
        x.set(2, -1);
        CHECKS.due("did it FLY", x.who(0), 3);
        CHECKS.due("none flies yet", x.count(4), -1);
        x.load(3, 0, 20);
        CHECKS.due("by its own fuel", x.who(0), 1);
        StripsFromAbove none = Checks.withPlane(0, 0);
        none.plane(0, 0);
        CHECKS.due("nothing to fly: the first", none.who(0), 0);
        CHECKS.due("nothing to fly: none covered", none.who(1), 0);
    }

    private static void when() {
        StripsFromAbove x = Checks.withStrips(Checks.withPlane(0, 0), 3);
        x.set(1, 20);
        CHECKS.due("of like ones the least", x.when(0), 10);
        CHECKS.due("how many", x.when(1), 112);
        CHECKS.due("HOUR stays", x.count(3), 20);
        Checks.law(x, "sees hour - 10;drifts 0;frosts 0;");
        CHECKS.due("by the law", x.when(0), 13);
        CHECKS.due("by the law, how many", x.when(1), 112);
        StripsFromAbove y = Checks.withPlane(2, 0);
        y.load(0, 0, 999);
        for (int k = 0; k < 12; k++) {
            y.strip(0, k < 7 ? 0 : 11);
        }
        // Strips begin 40 minutes apart: by hour 6 it is light from minute 240 on, when the seventh one begins.
        CHECKS.due("both early and late", y.when(0), 6);
        CHECKS.due("both sides", y.when(1), 160);
    }

    private static void tuft() {
        StripsFromAbove x = Checks.withStrips(Checks.withPlane(0, 0), 3);
        CHECKS.due("no clouds", x.tuft(0), -1);
        CHECKS.due("no clouds, as now", x.tuft(1), 112);
        x.land(11, 1, 1);
        CHECKS.due("a cloud that does not matter", x.tuft(0), -1);
        CHECKS.due("as now", x.tuft(1), 112);
        x.land(25, 1, 1);
        x.land(15, 1, 1);
        CHECKS.due("the first that does", x.tuft(0), 15);
        CHECKS.due("one more", x.tuft(1), 111);
        CHECKS.due("it stays", x.mile(15, 1), 1);
        x.land(0, 1, 1);
        CHECKS.due("MILE 0", x.tuft(0), 0);
        StripsFromAbove last = Checks.withStrips(Checks.withPlane(0, 0), 11);
        last.land(191, 1, 1);
        CHECKS.due("MILE 191", last.tuft(0), 191);
        CHECKS.due("MILE 191, how many", last.tuft(1), 64);
    }
}
