/** Each sentence that names a boundary case: a new object, MILES, WIND, HOUR, WHO FLIES; promises 1 to 5. */
public final class CountrySentencesTest {
    private static final Sentences THE = new Sentences("sentences of the country");

    public static void main(String[] args) {
        aNewObject();
        callsOfOneObject();
        count();
        set();
        setRefuses();
        land();
        mile();
        THE.end();
    }

    private static void aNewObject() {
        THE.holds("1: a flat country", "0..191: mile(#, 0) = 0");
        THE.holds("Terms: a CLOUD or none (none at first)", "0..191: mile(#, 1) = 0");
        THE.holds("1: no PLANES", """
            count(0) = 0
            0..3: told(#, 0) = -5
            0..3: taken(#, 0) = -11
            who(0) = NONE
            """);
        THE.holds("1: no STRIPS", """
            count(1) = 0
            0..11: planned(#) = -6
            4..15: taken(#, 6) = -11
            """);
        THE.holds("Terms: WIND 0 at first", "count(2) = 0");
        THE.holds("Terms: HOUR 10 at first", "count(3) = 10");
        THE.holds("Terms: WHO FLIES, none at first", "count(4) = NONE");
        THE.holds("Terms: TEXT 0, at first, and THE LAW", """
            count(5) = 1
            count(6) = 0
            """);
        THE.holds("Terms: THE TAPE, nothing on it at first", "count(7) = 0");
        THE.holds("Terms: SHEETS are missing, as all are at first", "0..3: cell(#, 0, 0) = -11");
        THE.holds("35: STATE: there is no IMAGE at first", "back() = STATE");
    }

    private static void callsOfOneObject() {
        THE.holds("What it is: at most 512 calls: the last of them answers, too", """
            plane(0, 0)
            load(0, 2, 1)
            1..10: strip(0, 0)
            strip(0, 5) = 11
            1..498: again(1) = 192
            again(0) = 8
            """);
        THE.holds("What it is: at most 512 calls: the last TEXT is read, too", """
            1..511: text() = -100
            text() = -100
            """);
    }

    private static void count() {
        THE.holds("2: what 0 .. 7, of a full object", """
            0..3: plane(5, #)
            0..11: strip(0, #)
            set(0, 5)
            set(1, 23)
            set(2, 3)
            law "sees 1;drifts 1;frosts 1;"
            law "sees 1;drifts 1;frosts 1;"
            law "sees 1;drifts 1;frosts 1;"
            law "sees 1;drifts 1;frosts 1;"
            law "sees 1;drifts 1;frosts 1;"
            1..32: feed(5, 32, 32, 32, 32, 32)
            count(0) = 4
            count(1) = 12
            count(2) = 5
            count(3) = 23
            count(4) = 3
            count(5) = 6
            count(6) = 5
            count(7) = 160
            """);
        THE.holds("2: 4 WHO FLIES (-1: none)", """
            plane(0, 0)
            count(4) = 0
            set(2, -1)
            count(4) = NONE
            """);
        THE.holds("2: BAD", """
            count(-1) = BAD
            count(8) = BAD
            count(MIN) = BAD
            count(MAX) = BAD
            """);
    }

    private static void set() {
        THE.holds("3: WIND -5 .. 5 becomes v: what it was", """
            set(0, -5) = 0
            count(2) = -5
            set(0, 5) = -5
            count(2) = 5
            set(0, 0) = 5
            count(2) = 0
            """);
        THE.holds("3: HOUR 0 .. 23 becomes v: what it was", """
            set(1, 0) = 10
            count(3) = 0
            set(1, 23) = 0
            count(3) = 23
            set(1, 23) = 23
            """);
        THE.holds("3: WHO FLIES becomes v (-1: none): what it was", """
            0..3: plane(0, #)
            set(2, 3) = 0
            count(4) = 3
            set(2, -1) = 3
            count(4) = NONE
            set(2, -1) = NONE
            set(2, 0) = NONE
            count(4) = 0
            """);
        THE.holds("3: -1: none, also of no PLANES", "set(2, -1) = NONE");
        THE.holds("Terms: as PLANE 0 comes, it flies", """
            plane(3, 0) = 0
            count(4) = 0
            """);
        THE.holds("Terms: as PLANE 0 comes, and no other", """
            plane(0, 0) = 0
            set(2, -1) = 0
            plane(0, 0) = 1
            count(4) = NONE
            set(2, 1) = NONE
            plane(0, 0) = 2
            count(4) = 1
            plane(0, 0) = 3
            count(4) = 1
            """);
        THE.holds("Terms: as PLANE 0 comes once more, it flies", """
            image()
            plane(0, 0)
            back() = 0
            count(4) = NONE
            plane(0, 0) = 0
            count(4) = 0
            """);
    }

    private static void setRefuses() {
        THE.holds("3: -105: what", """
            set(-1, 0) = -105
            set(3, 0) = -105
            set(MIN, 0) = -105
            set(MAX, 0) = -105
            """);
        THE.holds("3: -107: v, of WIND", """
            set(0, -6) = -107
            set(0, 6) = -107
            set(0, MIN) = -107
            set(0, MAX) = -107
            count(2) = 0
            """);
        THE.holds("3: -107: v, of HOUR", """
            set(1, -1) = -107
            set(1, 24) = -107
            set(1, MIN) = -107
            set(1, MAX) = -107
            count(3) = 10
            """);
        THE.holds("3: -107: v, of WHO FLIES", """
            set(2, 0) = -107
            plane(0, 0)
            set(2, 1) = -107
            set(2, -2) = -107
            set(2, MIN) = -107
            set(2, MAX) = -107
            1..3: plane(0, 0)
            set(2, 4) = -107
            count(4) = 0
            """);
        THE.holds("3: -107: v, of a PLANE that is none since back()", """
            plane(0, 0)
            image()
            plane(0, 0)
            set(2, 1) = 0
            back() = 1
            set(2, 1) = -107
            """);
        THE.holds("3: of -105, -107 the first one told", """
            set(3, 99) = -105
            set(-1, MIN) = -105
            """);
    }

    private static void land() {
        THE.holds("Terms: MILES 0 .. 191", """
            land(0, 0, 1) = 0
            land(191, 0, 2) = 0
            mile(0, 0) = 1
            mile(191, 0) = 2
            mile(1, 0) = 0
            mile(190, 0) = 0
            """);
        THE.holds("4: a HILL 0 .. 9 becomes v: what it was", """
            land(100, 0, 9) = 0
            mile(100, 0) = 9
            land(100, 0, 0) = 9
            mile(100, 0) = 0
            """);
        THE.holds("4: a CLOUD 1, 0 becomes v: what it was", """
            land(100, 1, 1) = 0
            mile(100, 1) = 1
            land(100, 1, 1) = 1
            land(100, 1, 0) = 1
            mile(100, 1) = 0
            land(100, 1, 0) = 0
            """);
        THE.holds("4: a HILL is no CLOUD", """
            land(7, 0, 1) = 0
            mile(7, 1) = 0
            land(8, 1, 1) = 0
            mile(8, 0) = 0
            """);
        THE.holds("4: -5: no such MILE", """
            land(-1, 0, 1) = -5
            land(192, 0, 1) = -5
            land(-1, 1, 1) = -5
            land(192, 1, 1) = -5
            land(MIN, 0, 1) = -5
            land(MAX, 0, 1) = -5
            """);
        THE.holds("4: -7: what", """
            land(5, -1, 1) = -7
            land(5, 2, 1) = -7
            land(5, MIN, 1) = -7
            land(5, MAX, 1) = -7
            """);
        THE.holds("4: -7: v, of a HILL", """
            land(5, 0, -1) = -7
            land(5, 0, 10) = -7
            land(5, 0, MIN) = -7
            land(5, 0, MAX) = -7
            """);
        THE.holds("4: -7: v, of a CLOUD", """
            land(5, 1, -1) = -7
            land(5, 1, 2) = -7
            land(5, 1, 9) = -7
            land(5, 1, MIN) = -7
            land(5, 1, MAX) = -7
            """);
        THE.holds("4: of -5, -7 the first one told", """
            land(192, 2, 0) = -5
            land(-1, 0, 10) = -5
            land(192, 1, 2) = -5
            """);
    }

    private static void mile() {
        THE.holds("5: HILL (what 0), CLOUD (1) of the first and the last MILE", """
            land(0, 0, 9)
            land(191, 1, 1)
            mile(0, 0) = 9
            mile(0, 1) = 0
            mile(191, 0) = 0
            mile(191, 1) = 1
            """);
        THE.holds("5: -5: no such MILE", """
            mile(-1, 0) = -5
            mile(192, 0) = -5
            mile(-1, 1) = -5
            mile(192, 1) = -5
            mile(MIN, 0) = -5
            mile(MAX, 1) = -5
            """);
        THE.holds("5: -7: what", """
            mile(0, -1) = -7
            mile(0, 2) = -7
            mile(191, MIN) = -7
            mile(191, MAX) = -7
            """);
        THE.holds("5: of -5, -7 the first one told", """
            mile(192, 2) = -5
            mile(-1, -1) = -5
            """);
    }
}
