/**
 * "REFUSALS, of several the first one told. They change nothing, but where it is told. What is asked changes nothing, but
 * where it is told." Each answer that refuses, on an object that is new, on one in use, and on one that is full.
 */
public final class RefusalSentencesTest {
    private static final Sentences THE = new Sentences("sentences of refusals");
    private static final String NEW = "";
    private static final String USED = """
        plane(3, 7)
        plane(4, 5)
        strips 3 109 205
        land(0, 0, 1)
        land(5, 0, 3)
        land(40, 1, 1)
        set(0, -2)
        set(1, 11)
        image()
        plane(5, 2)
        set(2, 1)
        land(40, 1, 0)
        land(41, 1, 1)
        land(7, 0, 8)
        load(0, 0, 250)
        load(1, 1, 150)
        load(2, 2, 3)
        strips 311
        law "sees 2;drifts wind;frosts 1;"
        bytes 0: 5 1 6 2
        shorts 1: 0 1 2 3 4 5 6 7 8 9 10 11
        ints 2: 7 3 8 4 9
        feed(5, 115, 101, 101, 115, 32)
        """;
    private static final String FULL = """
        plane(0, 0)
        plane(1, 1)
        plane(2, 2)
        plane(5, 9)
        0..11: strip(3, #)
        0..11: land(#, 1, 1)
        0..9: land(#, 0, #)
        law "sees 1;drifts 1;frosts 1;"
        law "sees 2;drifts 1;frosts 1;"
        law "sees 3;drifts 1;frosts 1;"
        law "sees 4;drifts 1;frosts 1;"
        law "sees 5;drifts 1;frosts 1;"
        image()
        set(2, 3)
        sheet(0, 0, 40)
        sheet(1, 1, 40)
        sheet(2, 2, 40)
        ints 3: 0 9 1 8 2 7
        1..32: feed(5, 32, 32, 32, 32, 32)
        """;

    public static void main(String[] args) {
        bad();
        badOfSheets();
        state();
        full();
        theOthers();
        hostRefuses();
        whatIsAsked();
        THE.end();
    }

    /** Each of three objects refuses so. */
    private static void allRefuse(String answer, String calls) {
        String run = calls.strip().replaceAll("(?m)$", " = " + answer) + "\n";
        THE.holds("REFUSALS: " + answer + ", on a new object", NEW + run);
        THE.holds("REFUSALS: " + answer + ", on one in use", USED + run);
        THE.holds("REFUSALS: " + answer + ", on a full one", FULL + run);
    }

    private static void bad() {
        allRefuse("BAD", """
            count(-1)
            count(8)
            feed(0, 33, 33, 33, 33, 33)
            feed(6, 33, 33, 33, 33, 33)
            feed(1, 256, 33, 33, 33, 33)
            feed(1, 33, 33, 33, 33, -1)
            force(-1)
            force(6)
            plane(-1, 0)
            plane(6, 0)
            plane(0, -1)
            plane(0, 10)
            strip(-1, 0)
            strip(4, 0)
            strip(0, -1)
            strip(1, 12)
            strip(2, 16)
            strip(3, -1)
            flight(-1)
            flight(7)
            spare(2)
            again(-1)
            apart(2, 0, 0, 0)
            apart(0, 10, 0, 0)
            apart(0, 0, 193, 0)
            apart(0, 0, 0, 2)
            begin(0, 0)
            begin(10, 0)
            begin(1, 2)
            seldom(2)
            who(-1)
            when(2)
            tuft(-1)
            drawn(-1, 0)
            drawn(100000, 0)
            drawn(0, -1)
            drawn(0, 101)
            """);
    }

    private static void badOfSheets() {
        allRefuse("BAD", """
            judge(4, 0)
            winds(-1, 0)
            kinds(4, 0, 0)
            laws(-1, 0)
            film(4, 0)
            film(-1, 16)
            sheet(4, 0, 1)
            sheet(-1, -1, 1)
            sheet(0, 3, 1)
            sheet(1, -2, 1)
            sheet(2, 0, 41)
            sheet(3, 2, 41)
            cell(4, 0, 7)
            cell(-1, 0, 7)
            copy(4, 0, 0, 0, 1)
            copy(0, 0, -1, 0, 1)
            landBy(4, 0, 0, 1)
            landBy(0, 3, 0, 1)
            landBy(0, 0, 0, 21)
            landBy(2, 2, 0, -1)
            taken(0, 7)
            taken(0, -1)
            """);
        THE.holds("REFUSALS: BAD: it doesn't tell 12", USED + """
            judge(0, 0) = BAD
            winds(0, 0) = BAD
            kinds(2, 0, 0) = BAD
            laws(2, 0) = BAD
            """);
    }

    private static void state() {
        THE.holds("REFUSALS: STATE, of back()", """
            plane(0, 0)
            strips 3 4
            land(5, 0, 5)
            land(6, 1, 1)
            set(0, 1)
            set(1, 12)
            law "sees 1;drifts 1;frosts 1;"
            load(0, 0, 1)
            back() = STATE
            """);
        THE.holds("REFUSALS: STATE, of kinds()", USED + """
            set(2, -1)
            kinds(1, 0, 0) = STATE
            kinds(1, 0, 1) = STATE
            kinds(1, 0, 2) = STATE
            kinds(1, 0, 3) = STATE
            """);
    }

    private static void full() {
        THE.holds("REFUSALS: FULL", FULL + """
            feed(1, 33, 33, 33, 33, 33) = FULL
            feed(5, 33, 33, 33, 33, 33) = FULL
            text() = FULL
            plane(0, 0) = FULL
            plane(5, 9) = FULL
            strip(0, 0) = FULL
            strip(3, 15) = FULL
            """);
    }

    private static void theOthers() {
        allRefuse("NO", """
            odds(-1, 1, 0, 0, 0)
            odds(0, 0, 0, 0, 0)
            odds(0, 13, 0, 0, 1)
            odds(0, 1, 101, 0, 0)
            odds(0, 1, 0, 193, 1)
            odds(0, 1, 0, 0, 2)
            """);
        allRefuse("-5", """
            land(-1, 0, 1)
            land(192, 1, 1)
            mile(-1, 0)
            mile(192, 0)
            load(-1, 0, 1)
            load(4, 1, 1)
            told(-1, 0)
            told(4, 0)
            seen(-1)
            seen(192)
            film(0, -1)
            film(1, 16)
            """);
        allRefuse("-6", """
            drop(-1)
            drop(12)
            planned(-1)
            planned(12)
            """);
        allRefuse("-7", """
            land(7, 2, 1)
            land(7, 0, 10)
            land(7, 0, -1)
            land(41, 1, 2)
            mile(0, 2)
            gap(-1)
            gap(192)
            """);
        THE.holds("REFUSALS: -7, of a PLANE", USED + """
            load(0, 3, 1) = -7
            load(0, 0, 1000) = -7
            load(1, 1, -1) = -7
            load(2, 2, 0) = -7
            load(2, 2, 10) = -7
            told(0, 7) = -7
            kinds(1, 0, 4) = -7
            """);
        allRefuse("-105", """
            set(-1, 0)
            set(3, 0)
            """);
        allRefuse("-107", """
            set(0, -6)
            set(0, 6)
            set(1, -1)
            set(1, 24)
            set(2, -2)
            set(2, 4)
            """);
        allRefuse("-1000", """
            asks(-1, 0, 0, 0)
            asks(3, 0, 0, 0)
            asks(0, 4, 0, 0)
            asks(0, 0, 192, 0)
            asks(0, 0, 0, 201)
            """);
    }

    private static void hostRefuses() {
        allRefuse("-14", """
            sheet(0, 0, -1)
            sheet(1, 1, -1)
            sheet(2, 2, -40)
            """);
        allRefuse("-12", """
            taken(-1, 0)
            taken(16, 6)
            """);
        THE.holds("REFUSALS: -11", USED + """
            cell(3, 0, 1) = -11
            judge(3, 0) = -11
            winds(3, 0) = -11
            kinds(3, 0, 0) = -11
            laws(3, 0) = -11
            copy(3, 0, 0, 0, 1) = -11
            copy(0, 0, 3, 0, 1) = -11
            landBy(3, 0, 0, 1) = -11
            taken(3, 0) = -11
            taken(8, 6) = -11
            """);
        THE.holds("REFUSALS: -12", USED + """
            cell(0, 4, 1) = -12
            cell(2, -1, 1) = -12
            copy(0, 0, 0, 1, 4) = -12
            copy(2, 3, 2, 0, 3) = -12
            copy(1, 0, 1, 0, -1) = -12
            """);
        THE.holds("REFUSALS: -13", USED + """
            copy(0, 0, 1, 0, 1) = -13
            copy(1, 0, 2, 0, 1) = -13
            copy(2, 0, 0, 0, 1) = -13
            landBy(0, 1, 0, 1) = -13
            landBy(2, 1, 0, 1) = -13
            taken(0, 2) = -13
            taken(4, 0) = -13
            """);
    }

    private static void whatIsAsked() {
        String questions = """
            count(4) = 1
            mile(7, 0) = 8
            asks(0, 1, 0, 0) = 2
            told(1, 0) = 4
            planned(0) = 3
            flight(6) = 4
            seen(0)
            gap(0)
            spare(0)
            again(0)
            apart(1, 3, 100, 0)
            begin(4, 1)
            seldom(1)
            who(0)
            when(0)
            tuft(0)
            judge(1, 0)
            winds(1, 0)
            kinds(1, 0, 1)
            laws(1, 0)
            drawn(7, 50)
            odds(7, 12, 50, 60, 1)
            taken(4, 6) = 3
            """;
        THE.holds("What is asked changes nothing, on one in use", USED + questions);
        THE.holds("What is asked changes nothing, by its other half", USED + """
            spare(1)
            again(1)
            apart(0, 1, 0, 1)
            begin(9, 0)
            seldom(0)
            who(1)
            when(1)
            tuft(1)
            kinds(1, 15, 2)
            odds(99999, 12, 1, 0, 0) = 1
            drawn(99999, 100) = 0
            """);
        THE.holds("What is asked changes nothing, of PLANES and KINDS", USED + "kinds(1, 3, 0)\n");
        THE.holds("What is asked changes nothing, of PLANES", USED + "kinds(1, 3, 3)\n");
        THE.holds("What is asked changes nothing, on a full one", FULL + questions.replaceAll(" = .*", "") + "count(0) = 4\n");
        THE.holds("What is asked changes nothing, on a new one", questions.replaceAll(" = .*", "") + "count(0) = 0\n");
    }
}
