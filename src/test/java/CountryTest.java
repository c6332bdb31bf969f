/** Promises 1 to 5: a new object, count, set, land, mile. */
public final class CountryTest {
    private static final Checks CHECKS = new Checks("the country");

    public static void main(String[] args) {
        aNewObject();
        count();
        set();
        landAndMile();
        CHECKS.end();
    }

    private static void aNewObject() {
        StripsFromAbove x = new StripsFromAbove();
        int[] counts = {0, 0, 0, 10, -1, 1, 0, 0};
        for (int what = 0; what < counts.length; what++) {
            CHECKS.due("new: count(" + what + ")", x.count(what), counts[what]);
        }
        for (int m = 0; m < 192; m++) {
            CHECKS.due("new: mile(" + m + ", 0)", x.mile(m, 0), 0);
            CHECKS.due("new: mile(" + m + ", 1)", x.mile(m, 1), 0);
        }
        CHECKS.due("new: planned(0)", x.planned(0), -6);
        CHECKS.due("new: told(0, 0)", x.told(0, 0), -5);
        CHECKS.due("new: back()", x.back(), -3);
        for (int s = 0; s < 4; s++) {
            CHECKS.due("new: cell(" + s + ", 0, 0)", x.cell(s, 0, 0), -11);
        }
    }

    private static void count() {
        StripsFromAbove x = Checks.withPlane(0, 0);
        x.plane(1, 0);
        Checks.withStrips(x, 3, 107, 209);
        x.set(0, -4);
        x.set(1, 13);
        x.set(2, 1);
        Checks.law(x, "sees 1;drifts 1;frosts 1;");
        x.feed(3, 1, 2, 3, 4, 5);
        int[] counts = {2, 3, -4, 13, 1, 2, 1, 3};
        for (int what = 0; what < counts.length; what++) {
            CHECKS.due("count(" + what + ")", x.count(what), counts[what]);
        }
        CHECKS.due("count(-1)", x.count(-1), -2);
        CHECKS.due("count(8)", x.count(8), -2);
        CHECKS.due("count(least)", x.count(Integer.MIN_VALUE), -2);
    }

    private static void set() {
        StripsFromAbove x = new StripsFromAbove();
        CHECKS.due("set(0, -5)", x.set(0, -5), 0);
        CHECKS.due("set(0, 5)", x.set(0, 5), -5);
        CHECKS.due("set(0, 6)", x.set(0, 6), -107);
        CHECKS.due("set(0, -6)", x.set(0, -6), -107);
        CHECKS.due("WIND", x.count(2), 5);
        CHECKS.due("set(1, 0)", x.set(1, 0), 10);
        CHECKS.due("set(1, 23)", x.set(1, 23), 0);
        CHECKS.due("set(1, 24)", x.set(1, 24), -107);
        CHECKS.due("set(1, -1)", x.set(1, -1), -107);
        CHECKS.due("HOUR", x.count(3), 23);
        CHECKS.due("set(2, 0), no plane", x.set(2, 0), -107);
        CHECKS.due("set(2, -1), no plane", x.set(2, -1), -1);
        x.plane(0, 0);
        CHECKS.due("WHO FLIES, as PLANE 0 came", x.count(4), 0);
        CHECKS.due("set(2, -1)", x.set(2, -1), 0);
        x.plane(0, 0);
        CHECKS.due("WHO FLIES, as PLANE 1 came", x.count(4), -1);
        CHECKS.due("set(2, 1)", x.set(2, 1), -1);
        CHECKS.due("set(2, 2)", x.set(2, 2), -107);
        CHECKS.due("set(2, -2)", x.set(2, -2), -107);
        CHECKS.due("set(2, 0)", x.set(2, 0), 1);
        CHECKS.due("set(3, 0)", x.set(3, 0), -105);
        CHECKS.due("set(-1, 99): what first", x.set(-1, 99), -105);
    }

    private static void landAndMile() {
        StripsFromAbove x = new StripsFromAbove();
        CHECKS.due("land(0, 0, 9)", x.land(0, 0, 9), 0);
        CHECKS.due("land(191, 0, 4)", x.land(191, 0, 4), 0);
        CHECKS.due("land(0, 0, 0)", x.land(0, 0, 0), 9);
        CHECKS.due("mile(0, 0)", x.mile(0, 0), 0);
        CHECKS.due("mile(191, 0)", x.mile(191, 0), 4);
        CHECKS.due("land(191, 1, 1)", x.land(191, 1, 1), 0);
        CHECKS.due("mile(191, 1)", x.mile(191, 1), 1);
        CHECKS.due("its HILL stays", x.mile(191, 0), 4);
        CHECKS.due("land(191, 1, 0)", x.land(191, 1, 0), 1);
        CHECKS.due("mile(191, 1), gone", x.mile(191, 1), 0);
        CHECKS.due("land(-1, 0, 0)", x.land(-1, 0, 0), -5);
        CHECKS.due("land(192, 7, 99): the MILE first", x.land(192, 7, 99), -5);
        CHECKS.due("land(5, 0, 10)", x.land(5, 0, 10), -7);
        CHECKS.due("land(5, 0, -1)", x.land(5, 0, -1), -7);
        CHECKS.due("land(5, 1, 2)", x.land(5, 1, 2), -7);
        CHECKS.due("land(5, 1, -1)", x.land(5, 1, -1), -7);
        CHECKS.due("land(5, 2, 0)", x.land(5, 2, 0), -7);
        CHECKS.due("land(5, -1, 0)", x.land(5, -1, 0), -7);
        CHECKS.due("they change nothing", x.mile(5, 0) + x.mile(5, 1), 0);
        CHECKS.due("mile(-1, 0)", x.mile(-1, 0), -5);
        CHECKS.due("mile(192, 2): the MILE first", x.mile(192, 2), -5);
        CHECKS.due("mile(0, 2)", x.mile(0, 2), -7);
        CHECKS.due("mile(0, -1)", x.mile(0, -1), -7);
    }
}
