/** Promises 36 to 40: sheet, cell, copy, landBy, taken. */
public final class HostTest {
    private static final Checks CHECKS = new Checks("the host");

    public static void main(String[] args) {
        sheet();
        cell();
        narrowCells();
        copyRefusals();
        copy();
        landByRefusals();
        landBy();
        taken();
        CHECKS.end();
    }

    private static void sheet() {
        StripsFromAbove x = new StripsFromAbove();
        int[][] rows = {
            // s, sort, n, answer
            {-1, 0, 1, -2}, {4, 0, 1, -2}, {0, -2, 1, -2}, {0, 3, 1, -2}, {0, 0, 41, -2}, {0, 0, -1, -14},
            {4, 0, -1, -2}, {0, 3, -1, -2}, {0, 2, Integer.MIN_VALUE, -14}, {0, 2, Integer.MAX_VALUE, -2},
        };
        for (int[] r : rows) {
            CHECKS.due("sheet(" + r[0] + ", " + r[1] + ", " + r[2] + ")", x.sheet(r[0], r[1], r[2]), r[3]);
            CHECKS.due("it is missing", x.cell(0, 0, 0), -11);
        }
        CHECKS.due("sheet(0, 0, 40)", x.sheet(0, 0, 40), 1);
        CHECKS.due("its last cell", x.cell(0, 39, 5), 1);
        CHECKS.due("no more", x.cell(0, 40, 5), -12);
        CHECKS.due("a size below 0", x.sheet(0, 1, -1), -14);
        CHECKS.due("changes nothing", x.cell(0, 39, 5), 1);
        CHECKS.due("sheet(0, -1, 41)", x.sheet(0, -1, 41), 1);
        CHECKS.due("it is missing then", x.cell(0, 0, 0), -11);
        CHECKS.due("sheet(0, -1, -7)", x.sheet(0, -1, -7), 1);
        CHECKS.due("sheet(3, 2, 0)", x.sheet(3, 2, 0), 1);
        CHECKS.due("no cells", x.cell(3, 0, 0), -12);
        Checks.tell(x, 2, 7, 7, 7);
        x.sheet(2, 2, 4);
        CHECKS.due("all 0", x.landBy(2, 2, 0, 2), 2);
        CHECKS.due("no HILL of 7", x.mile(7, 0) + x.mile(0, 0), 0);
    }

    private static void cell() {
        StripsFromAbove x = new StripsFromAbove();
        CHECKS.due("cell(-1, 0, 0)", x.cell(-1, 0, 0), -2);
        CHECKS.due("cell(4, 0, 0)", x.cell(4, 0, 0), -2);
        CHECKS.due("cell(0, -1, 0)", x.cell(0, -1, 0), -11);
        x.sheet(0, 2, 3);
        CHECKS.due("cell(0, -1, 0), there", x.cell(0, -1, 0), -12);
        CHECKS.due("cell(0, 3, 0)", x.cell(0, 3, 0), -12);
        CHECKS.due("cell(0, 2, 0)", x.cell(0, 2, 0), 1);
        CHECKS.due("cell(1, 0, 0), missing", x.cell(1, 0, 0), -11);
    }

    private static int hillBy(int sort, int m, int hill) {
        StripsFromAbove x = new StripsFromAbove();
        x.land(100, 0, 9);
        x.sheet(0, sort, 2);
        x.cell(0, 0, m);
        x.cell(0, 1, hill);
        return x.landBy(0, sort, 0, 1) == 0 ? -1 : x.mile(100, 0);
    }

    private static void narrowCells() {
        CHECKS.due("a byte", hillBy(0, 100, 3), 3);
        CHECKS.due("a byte of 256 more", hillBy(0, 356, 256 * 9 + 3), 3);
        CHECKS.due("a byte below 0", hillBy(0, 100, 255), -1);
        CHECKS.due("a byte of 100 less 256", hillBy(0, -156, 4), 4);
        CHECKS.due("a byte of the least int", hillBy(0, 100, Integer.MIN_VALUE), 0);
        CHECKS.due("a short", hillBy(1, 100, 3), 3);
        CHECKS.due("a short of 256 more", hillBy(1, 356, 3), -1);
        CHECKS.due("a short of 65536 more", hillBy(1, 65636, 65536 + 5), 5);
        CHECKS.due("a short below 0", hillBy(1, 100, 65535), -1);
        CHECKS.due("an int", hillBy(2, 100, 3), 3);
        CHECKS.due("an int of 65536 more", hillBy(2, 65636, 5), -1);
        // A byte is the host's, from -128 to 127: no byte names a MILE above 127.
        StripsFromAbove x = new StripsFromAbove();
        x.sheet(0, 0, 4);
        x.cell(0, 0, 127);
        x.cell(0, 1, 1);
        x.cell(0, 2, 128);
        x.cell(0, 3, 1);
        CHECKS.due("MILES 127, 128 of bytes", x.landBy(0, 0, 0, 2), 1);
    }

    private static void copyRefusals() {
        StripsFromAbove x = new StripsFromAbove();
        x.sheet(0, 2, 5);
        x.sheet(1, 2, 3);
        x.sheet(2, 1, 5);
        int[][] rows = {
            // s, i, other, j, n, answer
            {-1, 0, 0, 0, 1, -2}, {4, 0, 0, 0, 1, -2}, {0, 0, -1, 0, 1, -2}, {3, 0, 4, 0, 1, -2}, {3, 9, 0, 9, 9, -11},
            {0, 9, 3, 9, 9, -11}, {0, 9, 2, 9, 9, -13}, {2, 0, 1, 0, 0, -13}, {0, 0, 1, 0, 4, -12}, {0, 3, 1, 0, 3, -12},
            {0, 0, 1, 1, 3, -12}, {0, -1, 1, 0, 1, -12}, {0, 0, 1, -1, 1, -12}, {0, 0, 1, 0, -1, -12}, {0, 6, 1, 0, 0, -12},
            {0, 0, 1, 4, 0, -12}, {0, 5, 1, 3, 0, 0}, {0, 5, 1, 3, 1, -12}, {0, 0, 1, 0, 3, 3}, {0, 2, 1, 0, 3, 3},
            {0, 1, 1, 0, Integer.MAX_VALUE, -12}, {0, Integer.MAX_VALUE, 1, 0, 1, -12}, {0, 0, 1, Integer.MAX_VALUE, 2, -12},
            {0, 0, 1, 0, Integer.MIN_VALUE, -12}, {0, Integer.MIN_VALUE, 1, 0, 0, -12}, {1, 0, 0, 5, 0, 0}, {1, 0, 0, 2, 3, 3},
            {1, 0, 0, 3, 3, -12}, {0, 0, 0, 0, 5, 5}, {0, 1, 0, 0, 5, -12}, {0, -1, 1, 0, 0, -12}, {0, 0, 1, -1, 0, -12},
        };
        for (int[] r : rows) {
            String what = "copy(" + r[0] + ", " + r[1] + ", " + r[2] + ", " + r[3] + ", " + r[4] + ")";
            CHECKS.due(what, x.copy(r[0], r[1], r[2], r[3], r[4]), r[5]);
        }
    }

    /** What twelve numbers of a SHEET are, found by telling them as hills of MILE 0. */
    private static void numbersAre(String what, StripsFromAbove x, int s, int... want) {
        for (int i = 0; i < want.length; i++) {
            x.sheet(3, 2, 2);
            x.copy(s, i, 3, 1, 1);
            x.landBy(3, 2, 0, 1);
            CHECKS.due(what + ", number " + i, x.mile(0, 0), want[i]);
        }
    }

    private static void copy() {
        StripsFromAbove x = new StripsFromAbove();
        Checks.tell(x, 0, 1, 2, 3, 4, 5);
        CHECKS.due("to the right", x.copy(0, 0, 0, 1, 4), 4);
        numbersAre("to the right", x, 0, 1, 1, 2, 3, 4);
        Checks.tell(x, 0, 1, 2, 3, 4, 5);
        CHECKS.due("to the left", x.copy(0, 2, 0, 0, 3), 3);
        numbersAre("to the left", x, 0, 3, 4, 5, 4, 5);
        Checks.tell(x, 1, 9, 8, 7);
        CHECKS.due("to another", x.copy(1, 1, 0, 3, 2), 2);
        numbersAre("to another", x, 0, 3, 4, 5, 8, 7);
        numbersAre("from another", x, 1, 9, 8, 7);
        CHECKS.due("refused", x.copy(1, 1, 0, 3, 3), -12);
        numbersAre("refused", x, 0, 3, 4, 5, 8, 7);
    }

    private static void landByRefusals() {
        StripsFromAbove x = new StripsFromAbove();
        x.sheet(0, 1, 4);
        int[][] rows = {
            // s, sort, at, n, answer
            {-1, 1, 0, 1, -2}, {4, 1, 0, 1, -2}, {0, -1, 0, 1, -2}, {0, 3, 0, 1, -2}, {0, 1, 0, -1, -2}, {0, 1, 0, 21, -2},
            {1, 1, -1, 1, -11}, {0, 0, -1, 1, -13}, {0, 2, -1, 1, -13}, {0, 1, -1, 1, -12}, {0, 1, 3, 1, -12}, {0, 1, 4, 1, -12},
            {0, 1, Integer.MAX_VALUE, 1, -12}, {0, 1, Integer.MIN_VALUE, 20, -12}, {0, 1, Integer.MAX_VALUE - 1, 20, -12},
            {0, 1, 2, 1, 1}, {0, 1, 0, 2, 2}, {0, 1, 1, 1, 1}, {0, 1, 0, 20, -12}, {0, 1, 0, 0, 0},
        };
        for (int[] r : rows) {
            String what = "landBy(" + r[0] + ", " + r[1] + ", " + r[2] + ", " + r[3] + ")";
            CHECKS.due(what, x.landBy(r[0], r[1], r[2], r[3]), r[4]);
        }
        CHECKS.due("n 0 looks at no place", x.landBy(0, 1, 99, 0), 0);
    }

    private static void landBy() {
        StripsFromAbove x = new StripsFromAbove();
        Checks.tell(x, 0, 5, 191, 9, 0, 1, 192, 1, -1, 1, 7, 10, 8, -1, 6, 4, 0, 2, 99);
        CHECKS.due("from place 1 on", x.landBy(0, 2, 1, 8), 4);
        CHECKS.due("MILE 191", x.mile(191, 0), 9);
        CHECKS.due("MILE 0, the later one", x.mile(0, 0), 2);
        CHECKS.due("MILE 6", x.mile(6, 0), 4);
        CHECKS.due("MILE 7, left out", x.mile(7, 0), 0);
        CHECKS.due("MILE 8, left out", x.mile(8, 0), 0);
        CHECKS.due("as they are already", x.landBy(0, 2, 1, 1), 1);
        Checks.tell(x, 1, 20, 3, 21, 4, 22);
        CHECKS.due("a pair has no HILL", x.landBy(1, 2, 0, 3), -12);
        CHECKS.due("what stood ahead, first", x.mile(20, 0), 3);
        CHECKS.due("what stood ahead, second", x.mile(21, 0), 4);
        CHECKS.due("the half pair", x.mile(22, 0), 0);
        x.sheet(2, 0, 40);
        CHECKS.due("20 pairs", x.landBy(2, 0, 0, 20), 20);
    }

    private static void taken() {
        int[][] kinds = {{0}, {0, 1}, {0, 2}, {0, 1, 3}, {0, 2, 4}, {0, 5}};
        for (int kind = 0; kind < 6; kind++) {
            StripsFromAbove x = Checks.withPlane(0, 0);
            x.plane(kind, 0);
            for (int as = 0; as < 6; as++) {
                boolean is = false;
                for (int k : kinds[kind]) {
                    is |= k == as;
                }
                CHECKS.due("kind " + kind + " taken for " + as, x.taken(1, as), is ? 1 : -13);
            }
            CHECKS.due("kind " + kind + " taken for a STRIP", x.taken(1, 6), -13);
        }
        StripsFromAbove x = Checks.withStrips(Checks.withPlane(0, 0), 5, 307);
        CHECKS.due("taken(0, 0)", x.taken(0, 0), 0);
        CHECKS.due("taken(4, 6)", x.taken(4, 6), 5);
        CHECKS.due("taken(5, 6)", x.taken(5, 6), 307);
        CHECKS.due("taken(5, 0)", x.taken(5, 0), -13);
        CHECKS.due("taken(6, 6)", x.taken(6, 6), -11);
        CHECKS.due("taken(15, 0)", x.taken(15, 0), -11);
        CHECKS.due("taken(1, 6)", x.taken(1, 6), -11);
        CHECKS.due("taken(3, 0)", x.taken(3, 0), -11);
        CHECKS.due("taken(16, 0)", x.taken(16, 0), -12);
        CHECKS.due("taken(-1, 6)", x.taken(-1, 6), -12);
        CHECKS.due("taken(16, 7): the KIND first", x.taken(16, 7), -2);
        CHECKS.due("taken(0, -1)", x.taken(0, -1), -2);
        for (int k = 2; k < 12; k++) {
            x.strip(2, k);
        }
        CHECKS.due("taken(15, 6)", x.taken(15, 6), 211);
    }
}
