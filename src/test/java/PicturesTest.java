/** Promises 27 to 31: judge, winds, kinds, laws, film. */
public final class PicturesTest {
    private static final Checks CHECKS = new Checks("told pictures");

    public static void main(String[] args) {
        refusals();
        judge();
        winds();
        kindsOfPlanes();
        moreOfPlanes();
        everyOfPlanes();
        whichPlane();
        laws();
        film();
        CHECKS.end();
    }

    /** A plane whose strip along column 3 clicks over rows 0, 5, 10 and 15, seeing nothing aside by its text. */
    private static StripsFromAbove seldomly(int kind, int more, String drifts) {
        StripsFromAbove x = Checks.withPlane(kind, more);
        Checks.law(x, "sees 0;drifts " + drifts + ";frosts 0;");
        x.load(0, 2, 5);
        return Checks.withStrips(x, 3);
    }

    /** Sheet 0 tells of as many columns, from one on, so often; of the others nothing. */
    private static void tellOf(StripsFromAbove x, int column, int columns, int often) {
        int[] row = new int[12];
        for (int k = column; k < column + columns; k++) {
            row[k] = often;
        }
        Checks.tell(x, 0, row);
    }

    private static int asked(StripsFromAbove x, int which, int s, int y, int sort) {
        switch (which) {
            case 0: return x.judge(s, y);
            case 1: return x.winds(s, y);
            case 2: return x.kinds(s, y, sort);
            default: return x.laws(s, y);
        }
    }

    private static void refusals() {
        StripsFromAbove x = seldomly(0, 0, "wind");
        Checks.tell(x, 1, new int[12]);
        Checks.tell(x, 2, new int[11]);
        Checks.tell(x, 3, new int[13]);
        for (int which = 0; which < 4; which++) {
            CHECKS.due("no SHEET below", asked(x, which, -1, 99, 9), -2);
            CHECKS.due("no SHEET above", asked(x, which, 4, 99, 9), -2);
            CHECKS.due("nothing there", asked(x, which, 0, 99, 9), -11);
            CHECKS.due("it tells 11", asked(x, which, 2, 99, 9), -2);
            CHECKS.due("it tells 13", asked(x, which, 3, 99, 9), -2);
            CHECKS.due("no ROW below", asked(x, which, 1, -1, 9), -5);
            CHECKS.due("no ROW above", asked(x, which, 1, 16, 9), -5);
        }
        CHECKS.due("sort -1", x.kinds(1, 15, -1), -7);
        CHECKS.due("sort 4", x.kinds(1, 15, 4), -7);
        x.set(2, -1);
        CHECKS.due("sort ahead of STATE", x.kinds(1, 0, 4), -7);
        for (int sort = 0; sort < 4; sort++) {
            CHECKS.due("none flies, sort " + sort, x.kinds(1, 0, sort), -3);
        }
        CHECKS.due("none flies, all winds", x.winds(1, 15), 2047);
        CHECKS.due("none flies, all laws", x.laws(1, 15), 3);
        x.cell(1, 11, 1);
        CHECKS.due("none flies, no winds", x.winds(1, 15), 0);
        CHECKS.due("none flies, no laws", x.laws(1, 15), 0);
    }

    private static void judge() {
        StripsFromAbove x = Checks.withStrips(Checks.withPlane(0, 0), 3);
        for (int sort = 0; sort < 3; sort++) {
            x.sheet(0, sort, 12);
            CHECKS.due("all 0, sort " + sort, x.judge(0, 0), 0);
            for (int column = 0; column < 7; column++) {
                CHECKS.due("so far, sort " + sort, x.judge(0, 15), column);
                x.cell(0, column, 1);
            }
            CHECKS.due("row 15", x.judge(0, 15), -1);
            CHECKS.due("row 0", x.judge(0, 0), -1);
            CHECKS.due("row 1 is covered twice", x.judge(0, 1), 0);
            x.cell(0, 11, 1);
            CHECKS.due("the last column", x.judge(0, 15), 11);
            x.cell(0, 11, -1);
            CHECKS.due("less than nothing", x.judge(0, 15), 11);
            x.cell(0, 11, 0);
            x.cell(0, 6, 2);
            CHECKS.due("too often", x.judge(0, 15), 6);
        }
        x.cell(0, 6, 1);
        x.land(12 * 15 + 2, 1, 1);
        CHECKS.due("a cloud", x.judge(0, 15), 2);
    }

    private static void winds() {
        StripsFromAbove x = seldomly(0, 0, "wind");
        x.set(0, 4);
        int[] bits = {1 << 1, 1 << 2, 1 << 3, 1 << 4 | 1 << 5 | 1 << 6, 1 << 7, 1 << 8, 1 << 9, 1 << 10, 0};
        for (int column = 0; column < bits.length; column++) {
            tellOf(x, column, 1, 1);
            CHECKS.due("winds, column " + column, x.winds(0, 15), bits[column]);
        }
        tellOf(x, 0, 0, 0);
        CHECKS.due("out of the country", x.winds(0, 15), 1);
        CHECKS.due("all, where nothing is covered", x.winds(0, 2), 2047);
        CHECKS.due("WIND stays", x.count(2), 4);
    }

    private static void kindsOfPlanes() {
        StripsFromAbove x = seldomly(5, 0, "4");
        x.plane(2, 9);
        tellOf(x, 6, 1, 1);
        CHECKS.due("PLANE, WIDE, OLD", x.kinds(0, 15, 0), 1 | 1 << 4 | 1 << 5);
        tellOf(x, 4, 1, 1);
        CHECKS.due("QUICK, STEADY", x.kinds(0, 15, 0), 1 << 1 | 1 << 3);
        tellOf(x, 5, 3, 1);
        CHECKS.due("HIGH", x.kinds(0, 15, 0), 1 << 2);
        tellOf(x, 5, 3, 2);
        CHECKS.due("no KIND", x.kinds(0, 15, 0), 0);
        CHECKS.due("its KIND stays", x.told(0, 0), 5);
        x.load(0, 0, 31);
        tellOf(x, 4, 1, 1);
        CHECKS.due("who has the fuel", x.kinds(0, 15, 0), 1 << 1 | 1 << 3);
        tellOf(x, 0, 0, 0);
        CHECKS.due("who hasn't", x.kinds(0, 15, 0), 1 << 2 | 1 << 4 | 1 << 5);
    }

    private static void moreOfPlanes() {
        StripsFromAbove x = seldomly(3, 7, "4");
        tellOf(x, 4, 1, 1);
        CHECKS.due("MORE 0, 1", x.kinds(0, 15, 1), 3);
        tellOf(x, 3, 1, 1);
        CHECKS.due("MORE 2 to 9", x.kinds(0, 15, 1), 1020);
        tellOf(x, 5, 1, 1);
        CHECKS.due("no MORE", x.kinds(0, 15, 1), 0);
        CHECKS.due("its MORE stays", x.told(0, 1), 7);
    }

    private static void everyOfPlanes() {
        StripsFromAbove x = seldomly(0, 0, "0");
        tellOf(x, 3, 1, 2);
        CHECKS.due("EVERY 1", x.kinds(0, 15, 2), 1 << 1);
        tellOf(x, 3, 1, 1);
        CHECKS.due("EVERY 2 3 5 7", x.kinds(0, 15, 2), 1 << 2 | 1 << 3 | 1 << 5 | 1 << 7);
        tellOf(x, 0, 0, 0);
        CHECKS.due("EVERY 4 6 8 9", x.kinds(0, 15, 2), 1 << 4 | 1 << 6 | 1 << 8 | 1 << 9);
        CHECKS.due("its EVERY stays", x.told(0, 4), 5);
        CHECKS.due("row 0: all but 1 click once", x.kinds(0, 0, 2), 0);
        tellOf(x, 3, 1, 1);
        CHECKS.due("row 0: EVERY 2 to 9", x.kinds(0, 0, 2), 1020);
    }

    private static void whichPlane() {
        StripsFromAbove x = seldomly(0, 0, "0");
        tellOf(x, 3, 1, 1);
        CHECKS.due("the only PLANE", x.kinds(0, 15, 3), 1);
        x.plane(0, 0);
        x.load(1, 2, 4);
        x.plane(1, 0);
        x.load(2, 2, 3);
        CHECKS.due("PLANES 0, 2", x.kinds(0, 15, 3), 5);
        x.plane(2, 0);
        CHECKS.due("a fourth that sees more", x.kinds(0, 15, 3), 5);
        tellOf(x, 2, 3, 1);
        CHECKS.due("PLANE 3", x.kinds(0, 15, 3), 8);
        tellOf(x, 0, 0, 0);
        CHECKS.due("PLANE 1", x.kinds(0, 15, 3), 2);
        CHECKS.due("WHO FLIES stays", x.count(4), 0);
    }

    private static void laws() {
        StripsFromAbove x = seldomly(0, 0, "0");
        Checks.law(x, "sees 0;drifts 9;frosts 0;");
        Checks.law(x, "sees 0;drifts row;frosts 0;");
        Checks.law(x, "sees 0;drifts 0;frosts 1;");
        Checks.law(x, "sees 3;drifts 0;frosts 9;");
        tellOf(x, 3, 1, 1);
        CHECKS.due("laws, column 3", x.laws(0, 15), 1 << 1 | 1 << 3 | 1 << 4);
        tellOf(x, 0, 7, 1);
        CHECKS.due("laws, seven columns", x.laws(0, 15), 1);
        tellOf(x, 11, 1, 1);
        CHECKS.due("laws, column 11", x.laws(0, 15), 1 << 2);
        tellOf(x, 0, 0, 0);
        CHECKS.due("laws, nothing", x.laws(0, 15), 1 << 5);
        CHECKS.due("THE LAW stays", x.count(6), 5);
    }

    private static void film() {
        StripsFromAbove x = Checks.withStrips(Checks.withPlane(0, 0), 3);
        CHECKS.due("film(-1, 0)", x.film(-1, 0), -2);
        CHECKS.due("film(4, 16): the SHEET first", x.film(4, 16), -2);
        CHECKS.due("film(0, 16)", x.film(0, 16), -5);
        CHECKS.due("film(0, -1)", x.film(0, -1), -5);
        CHECKS.due("it is still missing", x.judge(0, 0), -11);
        CHECKS.due("film(0, 1)", x.film(0, 1), 7);
        CHECKS.due("it tells of that row", x.judge(0, 1), -1);
        CHECKS.due("and of no other", x.judge(0, 0), 0);
        CHECKS.due("12 and no more", x.cell(0, 12, 0), -12);
        CHECKS.due("they are shorts", x.landBy(0, 1, 0, 0), 0);
        CHECKS.due("they are no ints", x.landBy(0, 2, 0, 0), -13);
        x.sheet(3, 0, 40);
        x.cell(3, 11, 5);
        x.land(12 * 15, 1, 1);
        CHECKS.due("film(3, 15), a sheet of bytes before", x.film(3, 15), 6);
        CHECKS.due("it tells so", x.judge(3, 15), -1);
        CHECKS.due("of 12 shorts", x.cell(3, 12, 0), -12);
        CHECKS.due("film(3, 0)", x.film(3, 0), 7);
        CHECKS.due("it tells of row 0", x.judge(3, 0), -1);
        x.set(2, -1);
        CHECKS.due("none flies", x.film(3, 15), 0);
        CHECKS.due("it tells nothing", x.judge(3, 0), -1);
        CHECKS.due("the other one tells what was", x.judge(0, 1), 0);
    }
}
