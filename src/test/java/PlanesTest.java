/** Promises 10 to 15: plane, load, told, strip, drop, planned. */
public final class PlanesTest {
    private static final Checks CHECKS = new Checks("planes and strips");

    public static void main(String[] args) {
        plane();
        load();
        minutesOfKinds();
        told();
        strip();
        drop();
        CHECKS.end();
    }

    private static void plane() {
        StripsFromAbove x = new StripsFromAbove();
        CHECKS.due("plane(-1, 0)", x.plane(-1, 0), -2);
        CHECKS.due("plane(6, 0)", x.plane(6, 0), -2);
        CHECKS.due("plane(0, -1)", x.plane(0, -1), -2);
        CHECKS.due("plane(0, 10)", x.plane(0, 10), -2);
        CHECKS.due("none came", x.count(0), 0);
        CHECKS.due("none flies", x.count(4), -1);
        for (int p = 0; p < 4; p++) {
            CHECKS.due("plane " + p, x.plane(p + 2, 9 - p), p);
            CHECKS.due("who flies", x.count(4), 0);
        }
        CHECKS.due("a fifth", x.plane(0, 0), -4);
        CHECKS.due("BAD ahead of FULL", x.plane(0, 10), -2);
        for (int p = 0; p < 4; p++) {
            int[] all = {p + 2, 9 - p, 300, 200, 2};
            for (int what = 0; what < all.length; what++) {
                CHECKS.due("told(" + p + ", " + what + ")", x.told(p, what), all[what]);
            }
        }
    }

    private static void load() {
        StripsFromAbove x = Checks.withPlane(0, 0);
        x.plane(0, 0);
        int[] first = {300, 200, 2};
        int[] least = {0, 0, 1};
        int[] most = {999, 999, 9};
        CHECKS.due("load(2, 9, -1): the PLANE first", x.load(2, 9, -1), -5);
        CHECKS.due("load(-1, 0, 0)", x.load(-1, 0, 0), -5);
        CHECKS.due("load(0, 3, 1)", x.load(0, 3, 1), -7);
        CHECKS.due("load(0, -1, 1)", x.load(0, -1, 1), -7);
        for (int what = 0; what < 3; what++) {
            CHECKS.due("below the least " + what, x.load(1, what, least[what] - 1), -7);
            CHECKS.due("above the most " + what, x.load(1, what, most[what] + 1), -7);
            CHECKS.due("the least " + what, x.load(1, what, least[what]), first[what]);
            CHECKS.due("the most " + what, x.load(1, what, most[what]), least[what]);
            CHECKS.due("told " + what, x.told(1, 2 + what), most[what]);
            CHECKS.due("the other's " + what, x.told(0, 2 + what), first[what]);
        }
    }

    private static void minutesOfKinds() {
        int[] miles = {1, 1, 2, 1, 2, 2};
        for (int kind = 0; kind < 6; kind++) {
            for (int more = 0; more <= 9; more++) {
                StripsFromAbove x = Checks.withPlane(kind, more);
                int quick = 4 + 2 + more / 3;
                int[] turns = {4, quick, 8, quick, 8, 5};
                CHECKS.due("a mile of kind " + kind, x.told(0, 5), miles[kind]);
                CHECKS.due("a turn of kind " + kind + ", more " + more, x.told(0, 6), turns[kind]);
            }
        }
    }

    private static void told() {
        StripsFromAbove x = new StripsFromAbove();
        CHECKS.due("told, no plane", x.told(0, 9), -5);
        x.plane(5, 8);
        CHECKS.due("told(0, -1)", x.told(0, -1), -7);
        CHECKS.due("told(0, 7)", x.told(0, 7), -7);
        CHECKS.due("told(1, 7)", x.told(1, 7), -5);
        CHECKS.due("told(-1, 0)", x.told(-1, 0), -5);
        CHECKS.due("told(0, 0)", x.told(0, 0), 5);
        CHECKS.due("told(0, 1)", x.told(0, 1), 8);
    }

    private static void strip() {
        StripsFromAbove x = new StripsFromAbove();
        int[][] wrong = {{-1, 0}, {4, 0}, {0, 12}, {1, 12}, {2, 16}, {3, 16}, {0, -1}, {1, -1}, {2, -1}, {3, -1}};
        for (int[] w : wrong) {
            CHECKS.due("strip(" + w[0] + ", " + w[1] + ")", x.strip(w[0], w[1]), -2);
        }
        int[][] right = {{0, 0}, {0, 11}, {1, 0}, {1, 11}, {2, 0}, {2, 15}, {3, 0}, {3, 15}, {3, 12}, {0, 0}, {0, 0}, {2, 7}};
        for (int k = 0; k < right.length; k++) {
            CHECKS.due("planned(" + k + "), before", x.planned(k), -6);
            CHECKS.due("strip " + k, x.strip(right[k][0], right[k][1]), k + 1);
            CHECKS.due("planned(" + k + ")", x.planned(k), 100 * right[k][0] + right[k][1]);
        }
        CHECKS.due("a thirteenth", x.strip(0, 0), -4);
        CHECKS.due("BAD ahead of FULL", x.strip(0, 12), -2);
        CHECKS.due("STRIPS", x.count(1), 12);
        CHECKS.due("planned(12)", x.planned(12), -6);
        CHECKS.due("planned(-1)", x.planned(-1), -6);
    }

    private static void drop() {
        StripsFromAbove x = Checks.withStrips(new StripsFromAbove(), 3, 111, 215, 302);
        CHECKS.due("drop(4)", x.drop(4), -6);
        CHECKS.due("drop(-1)", x.drop(-1), -6);
        CHECKS.due("drop(1)", x.drop(1), 111);
        CHECKS.due("planned(0)", x.planned(0), 3);
        CHECKS.due("planned(1)", x.planned(1), 215);
        CHECKS.due("planned(2)", x.planned(2), 302);
        CHECKS.due("planned(3)", x.planned(3), -6);
        CHECKS.due("drop(2), the last", x.drop(2), 302);
        CHECKS.due("drop(0), the first", x.drop(0), 3);
        CHECKS.due("drop(0), the only one", x.drop(0), 215);
        CHECKS.due("drop(0), none", x.drop(0), -6);
        CHECKS.due("STRIPS", x.count(1), 0);
        CHECKS.due("a strip then", x.strip(1, 1), 1);
        for (int k = 1; k < 12; k++) {
            x.strip(0, k);
        }
        CHECKS.due("drop of twelve", x.drop(0), 101);
        CHECKS.due("the last of eleven", x.planned(10), 11);
        CHECKS.due("none behind", x.planned(11), -6);
        CHECKS.due("room again", x.strip(3, 3), 12);
    }
}
