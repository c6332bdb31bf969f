/** Each sentence that names a boundary case: the host, its SHEETS; promises 36 to 40. */
public final class HostSentencesTest {
    private static final Sentences THE = new Sentences("sentences of the host");

    public static void main(String[] args) {
        sheet();
        sheetRefuses();
        cell();
        cellRefuses();
        copy();
        copyOutside();
        copyRefuses();
        landBy();
        landByOutside();
        landByRefuses();
        taken();
        takenRefuses();
        THE.end();
    }

    // ---- promise 36

    private static void sheet() {
        THE.holds("36: SHEETS 0 .. 3, each of a sort 0, 1, 2", """
            sheet(0, 0, 3) = 1
            sheet(1, 1, 3) = 1
            sheet(2, 2, 3) = 1
            landBy(0, 0, 0, 1) = 1
            landBy(1, 1, 0, 1) = 1
            landBy(2, 2, 0, 1) = 1
            cell(3, 0, 0) = -11
            sheet(3, 2, 1) = 1
            cell(3, 0, 0) = 1
            """);
        THE.holds("36: a row of 40", """
            sheet(0, 0, 40) = 1
            cell(0, 39, 1) = 1
            cell(0, 40, 1) = -12
            sheet(3, 2, 40) = 1
            cell(3, 39, 1) = 1
            """);
        THE.holds("36: a row of 0", """
            sheet(0, 0, 0) = 1
            cell(0, 0, 1) = -12
            landBy(0, 0, 0, 0) = 0
            copy(0, 0, 0, 0, 0) = 0
            """);
        THE.holds("36: all 0, also where it told others before", """
            ints 0: 7 7 7 7 7 7 7 7 7 7 7 7
            judge(0, 0) = 0
            sheet(0, 2, 12) = 1
            judge(0, 0) = NONE
            ints 0: 7 7 7 7 7 7 7 7 7 7 7 7
            sheet(0, 2, 1) = 1
            sheet(0, 2, 12) = 1
            judge(0, 0) = NONE
            """);
        THE.holds("36: missing (sort -1)", """
            sheet(0, 2, 5)
            sheet(0, -1, 5) = 1
            cell(0, 0, 0) = -11
            landBy(0, 2, 0, 0) = -11
            copy(0, 0, 0, 0, 0) = -11
            """);
        THE.holds("36: sort -1: n does not matter", """
            sheet(0, -1, 0) = 1
            sheet(0, -1, -1) = 1
            sheet(0, -1, 41) = 1
            sheet(0, -1, MIN) = 1
            sheet(0, 2, 5) = 1
            sheet(0, -1, MAX) = 1
            cell(0, 0, 0) = -11
            """);
    }

    private static void sheetRefuses() {
        THE.holds("36: BAD: SHEET", """
            sheet(-1, 0, 1) = BAD
            sheet(4, 0, 1) = BAD
            sheet(-1, -1, 0) = BAD
            sheet(4, -1, 0) = BAD
            sheet(MIN, 0, 1) = BAD
            sheet(MAX, 0, 1) = BAD
            """);
        THE.holds("36: BAD: sort", """
            sheet(0, -2, 1) = BAD
            sheet(0, 3, 1) = BAD
            sheet(0, MIN, 1) = BAD
            sheet(0, MAX, 1) = BAD
            cell(0, 0, 0) = -11
            """);
        THE.holds("36: BAD: n above 40", """
            sheet(0, 0, 41) = BAD
            sheet(0, 1, 41) = BAD
            sheet(0, 2, 41) = BAD
            sheet(0, 2, MAX) = BAD
            cell(0, 0, 0) = -11
            """);
        THE.holds("36: -14: a size below 0", """
            sheet(0, 0, -1) = -14
            sheet(0, 1, -1) = -14
            sheet(0, 2, -1) = -14
            sheet(0, 2, MIN) = -14
            cell(0, 0, 0) = -11
            """);
        THE.holds("36: of BAD, -14 the first one told", """
            sheet(4, 0, -1) = BAD
            sheet(-1, 2, -1) = BAD
            sheet(0, 3, -1) = BAD
            sheet(0, -2, -1) = BAD
            """);
        THE.holds("36: a refused SHEET stays as it is", """
            ints 0: 5 7
            sheet(0, 2, 41) = BAD
            sheet(0, 2, -1) = -14
            sheet(0, 3, 1) = BAD
            sheet(0, -2, 1) = BAD
            landBy(0, 2, 0, 1) = 1
            mile(5, 0) = 7
            cell(0, 2, 0) = -12
            """);
    }

    // ---- promise 37

    private static void cell() {
        THE.holds("37: number i, the first and the last", """
            sheet(0, 2, 12)
            cell(0, 0, 1) = 1
            judge(0, 0) = 0
            cell(0, 0, 0) = 1
            judge(0, 0) = NONE
            cell(0, 11, 1) = 1
            judge(0, 0) = 11
            """);
        THE.holds("37: of bytes its lowest 8 bits", """
            bytes 0: 356 2307 -156 260 100 256 100 255
            landBy(0, 0, 0, 1) = 1
            mile(100, 0) = 3
            landBy(0, 0, 2, 1) = 1
            mile(100, 0) = 4
            landBy(0, 0, 4, 1) = 1
            mile(100, 0) = 0
            landBy(0, 0, 6, 1) = 0
            """);
        THE.holds("37: of bytes its lowest 8 bits, of the least and the greatest int", """
            bytes 0: 5 0
            cell(0, 1, MIN) = 1
            land(5, 0, 3)
            landBy(0, 0, 0, 1) = 1
            mile(5, 0) = 0
            cell(0, 1, MAX) = 1
            landBy(0, 0, 0, 1) = 0
            """);
        THE.holds("37: of shorts its lowest 16 bits", """
            shorts 0: 65636 65541 -65436 131078 356 3 100 65535
            landBy(0, 1, 0, 1) = 1
            mile(100, 0) = 5
            landBy(0, 1, 2, 1) = 1
            mile(100, 0) = 6
            landBy(0, 1, 4, 1) = 0
            landBy(0, 1, 6, 1) = 0
            """);
        THE.holds("37: of ints all of it", """
            ints 0: 100 3 65636 5 356 5 100 65541
            cell(0, 7, MIN)
            landBy(0, 2, 0, 1) = 1
            landBy(0, 2, 2, 1) = 0
            landBy(0, 2, 4, 1) = 0
            landBy(0, 2, 6, 1) = 0
            mile(100, 0) = 3
            """);
        THE.holds("37: bytes are the host's, -128 .. 127", """
            bytes 0: 127 1 128 1 191 1
            landBy(0, 0, 0, 3) = 1
            mile(127, 0) = 1
            mile(128, 0) = 0
            mile(191, 0) = 0
            """);
    }

    private static void cellRefuses() {
        THE.holds("37: BAD: SHEET", """
            cell(-1, 0, 0) = BAD
            cell(4, 0, 0) = BAD
            cell(MIN, 0, 0) = BAD
            cell(MAX, 0, 0) = BAD
            """);
        THE.holds("37: -11: nothing there", """
            0..3: cell(#, 0, 0) = -11
            """);
        THE.holds("37: -12: a place outside", """
            ints 0: 1 2 3
            cell(0, -1, 9) = -12
            cell(0, 3, 9) = -12
            cell(0, 39, 9) = -12
            cell(0, MIN, 9) = -12
            cell(0, MAX, 9) = -12
            cell(0, 2, 9) = 1
            """);
        THE.holds("37: of BAD, -11, -12 the first one told", """
            cell(4, -1, 0) = BAD
            cell(-1, 99, 0) = BAD
            cell(0, -1, 0) = -11
            cell(0, 99, 0) = -11
            """);
    }

    // ---- promise 38

    private static void copy() {
        THE.holds("38: n numbers, from i on, come to another one's place j: n", """
            ints 0: 1 2 3 4 5
            sheet(1, 2, 12)
            copy(0, 1, 1, 3, 3) = 3
            landBy(1, 2, 3, 1) = 1
            mile(2, 0) = 3
            landBy(1, 2, 4, 1) = 1
            mile(3, 0) = 4
            landBy(1, 2, 2, 1) = 1
            mile(0, 0) = 2
            landBy(1, 2, 5, 1) = 1
            mile(4, 0) = 0
            """);
        THE.holds("38: to its own place, ahead (as they were)", """
            ints 0: 1 2 3 4 5 6
            copy(0, 0, 0, 1, 5) = 5
            landBy(0, 2, 0, 3) = 3
            mile(1, 0) = 1
            mile(2, 0) = 3
            mile(4, 0) = 5
            """);
        THE.holds("38: to its own place, back (as they were)", """
            ints 0: 1 2 3 4 5 6
            copy(0, 1, 0, 0, 5) = 5
            landBy(0, 2, 0, 3) = 3
            mile(2, 0) = 3
            mile(4, 0) = 5
            mile(6, 0) = 6
            mile(1, 0) = 0
            """);
        THE.holds("38: all of it, none of it", """
            shorts 0: 1 2 3
            sheet(1, 1, 3)
            copy(0, 0, 1, 0, 0) = 0
            copy(0, 3, 1, 3, 0) = 0
            landBy(1, 1, 0, 1) = 1
            mile(0, 0) = 0
            copy(0, 0, 1, 0, 3) = 3
            landBy(1, 1, 1, 1) = 1
            mile(2, 0) = 3
            """);
        THE.holds("38: numbers of another one stay as they are", """
            bytes 0: 1 2 3
            bytes 1: 7 8 9
            copy(0, 0, 1, 1, 1) = 1
            landBy(0, 0, 0, 1) = 1
            mile(1, 0) = 2
            landBy(1, 0, 0, 1) = 1
            mile(7, 0) = 1
            landBy(1, 0, 1, 1) = 1
            mile(1, 0) = 9
            """);
        THE.holds("38: 40 numbers", """
            sheet(0, 0, 40)
            sheet(1, 0, 40)
            cell(0, 39, 9)
            copy(0, 0, 1, 0, 40) = 40
            landBy(1, 0, 38, 1) = 1
            mile(0, 0) = 9
            """);
    }

    private static void copyOutside() {
        String both = "ints 0: 1 2 3 4 5\nints 1: 6 7 8\n";
        THE.holds("38: -12: i, with n", both + """
            copy(0, 2, 1, 0, 3) = 3
            copy(0, 3, 1, 0, 3) = -12
            copy(0, -1, 1, 0, 1) = -12
            copy(0, 5, 1, 0, 1) = -12
            copy(0, MIN, 1, 0, 1) = -12
            copy(0, MAX, 1, 0, 1) = -12
            """);
        THE.holds("38: -12: j, with n", both + """
            copy(0, 0, 1, 0, 3) = 3
            copy(0, 0, 1, 1, 3) = -12
            copy(0, 0, 1, -1, 1) = -12
            copy(0, 0, 1, 3, 1) = -12
            copy(0, 0, 1, MIN, 1) = -12
            copy(0, 0, 1, MAX, 1) = -12
            """);
        THE.holds("38: -12: n below 0, too", both + """
            copy(0, 0, 1, 0, -1) = -12
            copy(0, 3, 1, 2, -1) = -12
            copy(0, 0, 1, 0, MIN) = -12
            copy(0, 0, 0, 0, -1) = -12
            """);
        THE.holds("38: -12: n above what there is", both + """
            copy(0, 0, 1, 0, 4) = -12
            copy(1, 0, 0, 0, 4) = -12
            copy(0, 0, 1, 0, MAX) = -12
            copy(0, 1, 0, 0, MAX) = -12
            copy(0, MAX, 0, MAX, MAX) = -12
            copy(0, 0, 0, 0, 6) = -12
            copy(0, 0, 0, 0, 5) = 5
            """);
        THE.holds("38: -12: with n 0, too, if i or j is above how many there are", both + """
            copy(0, 5, 1, 3, 0) = 0
            copy(0, 6, 1, 3, 0) = -12
            copy(0, 5, 1, 4, 0) = -12
            copy(0, MAX, 1, 0, 0) = -12
            copy(0, 0, 1, MAX, 0) = -12
            """);
        THE.holds("38: -12: with n 0, too, if i or j is below 0", both + """
            copy(0, -1, 1, 0, 0) = -12
            copy(0, 0, 1, -1, 0) = -12
            copy(0, MIN, 1, 0, 0) = -12
            copy(0, 0, 1, MIN, 0) = -12
            """);
        THE.holds("38: -12 changes nothing, no number that has room, either", both + """
            copy(0, 0, 1, 2, 2) = -12
            copy(0, 4, 1, 0, 2) = -12
            landBy(1, 2, 0, 1) = 1
            mile(6, 0) = 7
            landBy(1, 2, 1, 1) = 1
            mile(7, 0) = 8
            """);
    }

    private static void copyRefuses() {
        THE.holds("38: BAD: SHEETS", """
            ints 0: 1 2
            copy(-1, 0, 0, 0, 1) = BAD
            copy(4, 0, 0, 0, 1) = BAD
            copy(0, 0, -1, 0, 1) = BAD
            copy(0, 0, 4, 0, 1) = BAD
            copy(MIN, 0, MAX, 0, 1) = BAD
            """);
        THE.holds("38: -11: nothing there", """
            ints 0: 1 2
            copy(0, 0, 1, 0, 1) = -11
            copy(1, 0, 0, 0, 1) = -11
            copy(1, 0, 1, 0, 0) = -11
            copy(2, 0, 3, 0, 0) = -11
            """);
        THE.holds("38: -13: unlike sorts", """
            bytes 0: 1 2
            shorts 1: 1 2
            ints 2: 1 2
            copy(0, 0, 1, 0, 1) = -13
            copy(1, 0, 0, 0, 1) = -13
            copy(0, 0, 2, 0, 1) = -13
            copy(2, 0, 0, 0, 1) = -13
            copy(1, 0, 2, 0, 1) = -13
            copy(2, 0, 1, 0, 0) = -13
            """);
        THE.holds("38: of BAD, -11, -13, -12 the first one told", """
            bytes 0: 1 2
            ints 1: 1 2
            copy(2, 0, 4, 0, 1) = BAD
            copy(4, 9, 2, 9, 9) = BAD
            copy(0, 9, 4, 9, 9) = BAD
            copy(2, 9, 0, 0, 9) = -11
            copy(0, -1, 2, 0, -1) = -11
            copy(0, 9, 1, 9, 9) = -13
            copy(1, -1, 0, 0, -1) = -13
            """);
    }

    // ---- promise 39

    private static void landBy() {
        THE.holds("39: from a place on, two by two (a MILE, its HILL): how many became so", """
            land(1, 0, 4)
            ints 0: 5 3 1 0
            landBy(0, 2, 0, 2) = 2
            mile(5, 0) = 3
            mile(1, 0) = 0
            new
            ints 0: 5 0 9 191 4
            landBy(0, 2, 1, 2) = 2
            mile(0, 0) = 9
            mile(191, 0) = 4
            """);
        THE.holds("39: MILES 0, 191 and HILLS 0, 9; others are left out", """
            land(10, 0, 5)
            ints 0: 0 9 191 9 -1 1 192 1 10 -1 10 10 11 9 10 0
            landBy(0, 2, 0, 8) = 4
            mile(0, 0) = 9
            mile(191, 0) = 9
            mile(10, 0) = 0
            mile(11, 0) = 9
            """);
        THE.holds("39: others are left out: all of them", """
            land(10, 0, 5)
            ints 0: -1 1 192 1 10 -1 10 10
            cell(0, 0, MIN)
            cell(0, 2, MAX)
            cell(0, 5, MIN)
            cell(0, 7, MAX)
            landBy(0, 2, 0, 4) = 0
            mile(10, 0) = 5
            """);
        THE.holds("39: one MILE twice", """
            ints 0: 5 1 5 2
            landBy(0, 2, 0, 2) = 2
            mile(5, 0) = 2
            """);
        THE.holds("39: a HILL that it has is so, too", """
            land(5, 0, 3)
            ints 0: 5 3
            landBy(0, 2, 0, 1) = 1
            mile(5, 0) = 3
            """);
        THE.holds("39: n of them (0 .. 20): none", """
            ints 0: 5 3
            landBy(0, 2, 0, 0) = 0
            landBy(0, 2, 2, 0) = 0
            mile(5, 0) = 0
            """);
        THE.holds("39: n of them: of none no place is outside", """
            ints 0: 5 3
            landBy(0, 2, -1, 0) = 0
            landBy(0, 2, 3, 0) = 0
            landBy(0, 2, MAX, 0) = 0
            """);
        THE.holds("39: n of them (0 .. 20): twenty", """
            sheet(0, 0, 40)
            cell(0, 38, 7)
            cell(0, 39, 8)
            landBy(0, 0, 0, 20) = 20
            mile(7, 0) = 8
            """);
        THE.holds("39: by bytes, shorts, ints", """
            bytes 0: 5 1
            shorts 1: 6 2
            ints 2: 7 3
            landBy(0, 0, 0, 1) = 1
            landBy(1, 1, 0, 1) = 1
            landBy(2, 2, 0, 1) = 1
            mile(5, 0) = 1
            mile(6, 0) = 2
            mile(7, 0) = 3
            """);
    }

    private static void landByOutside() {
        THE.holds("39: -12: a place ahead of the SHEET", """
            ints 0: 5 1 6 2
            landBy(0, 2, -1, 1) = -12
            landBy(0, 2, -2, 2) = -12
            landBy(0, 2, MIN, 1) = -12
            mile(5, 0) = 0
            mile(1, 0) = 0
            """);
        THE.holds("39: -12: a place behind the SHEET", """
            ints 0: 5 1 6 2
            landBy(0, 2, 4, 1) = -12
            landBy(0, 2, 5, 1) = -12
            landBy(0, 2, MAX, 1) = -12
            landBy(0, 2, MAX, 20) = -12
            landBy(0, 2, 2, 1) = 1
            sheet(1, 2, 0)
            landBy(1, 2, 0, 1) = -12
            """);
        THE.holds("39: -12: a MILE, whose HILL is behind the SHEET", """
            ints 0: 5 1 6
            landBy(0, 2, 2, 1) = -12
            landBy(0, 2, 0, 2) = -12
            mile(6, 0) = 0
            """);
        THE.holds("39: -12: what stood ahead became so", """
            ints 0: 5 1 6 2 7
            landBy(0, 2, 0, 3) = -12
            mile(5, 0) = 1
            mile(6, 0) = 2
            mile(7, 0) = 0
            """);
        THE.holds("39: -12: what stood ahead became so, others are left out", """
            ints 0: 192 1 6 2 7 10
            landBy(0, 2, 0, 4) = -12
            mile(6, 0) = 2
            mile(7, 0) = 0
            """);
        THE.holds("39: -12: nineteen stood ahead", """
            sheet(0, 0, 40)
            cell(0, 37, 7)
            cell(0, 38, 8)
            landBy(0, 0, 1, 20) = -12
            mile(7, 0) = 8
            """);
    }

    private static void landByRefuses() {
        THE.holds("39: BAD: SHEET", """
            landBy(-1, 0, 0, 1) = BAD
            landBy(4, 0, 0, 1) = BAD
            landBy(MIN, 0, 0, 1) = BAD
            landBy(MAX, 0, 0, 1) = BAD
            """);
        THE.holds("39: BAD: sort", """
            ints 0: 5 1
            landBy(0, -1, 0, 1) = BAD
            landBy(0, 3, 0, 1) = BAD
            landBy(1, -1, 0, 1) = BAD
            landBy(0, MIN, 0, 1) = BAD
            landBy(0, MAX, 0, 1) = BAD
            """);
        THE.holds("39: BAD: n", """
            ints 0: 5 1
            landBy(0, 2, 0, -1) = BAD
            landBy(0, 2, 0, 21) = BAD
            landBy(0, 2, 0, MIN) = BAD
            landBy(0, 2, 0, MAX) = BAD
            mile(5, 0) = 0
            """);
        THE.holds("39: -11: nothing there", """
            landBy(0, 0, 0, 1) = -11
            landBy(1, 1, 0, 1) = -11
            landBy(3, 2, 0, 0) = -11
            """);
        THE.holds("39: -13: of another sort", """
            bytes 0: 5 1
            shorts 1: 5 1
            ints 2: 5 1
            landBy(0, 1, 0, 1) = -13
            landBy(0, 2, 0, 1) = -13
            landBy(1, 0, 0, 1) = -13
            landBy(1, 2, 0, 1) = -13
            landBy(2, 0, 0, 1) = -13
            landBy(2, 1, 0, 0) = -13
            mile(5, 0) = 0
            """);
        THE.holds("39: of BAD, -11, -13, -12 the first one told", """
            ints 0: 5 1
            landBy(4, 0, -1, 1) = BAD
            landBy(1, 3, -1, 1) = BAD
            landBy(1, 0, -1, 21) = BAD
            landBy(0, 0, 0, -1) = BAD
            landBy(1, 0, -1, 1) = -11
            landBy(0, 0, -1, 1) = -13
            landBy(0, 1, 9, 20) = -13
            landBy(0, 2, -1, 1) = -12
            """);
    }

    // ---- promise 40

    private static void taken() {
        String all = "0..3: plane(#, 0)\n0..11: strip(3, #)\n";
        THE.holds("40: 0 .. 3 PLANES, taken for a PLANE of that KIND: its number", all + "0..3: taken(#, #) = #\n");
        THE.holds("40: also of one that is one", all + """
            0..3: taken(#, 0) = #
            taken(3, 1) = 3
            new
            plane(4, 0)
            plane(5, 0)
            taken(0, 4) = 0
            taken(0, 2) = 0
            taken(0, 0) = 0
            taken(1, 5) = 1
            taken(1, 0) = 1
            """);
        THE.holds("40: 4 .. 15 STRIPS, taken for a STRIP (as of planned())", all + """
            taken(4, 6) = 300
            taken(15, 6) = 311
            taken(9, 6) = 305
            drop(0)
            taken(4, 6) = 301
            taken(15, 6) = -11
            """);
        THE.holds("40: -13: of another KIND", """
            plane(0, 0)
            plane(1, 0)
            plane(2, 0)
            plane(3, 0)
            1..6: taken(0, #) = -13
            2..6: taken(1, #) = -13
            taken(2, 1) = -13
            3..6: taken(2, #) = -13
            taken(3, 2) = -13
            4..6: taken(3, #) = -13
            new
            plane(4, 0)
            plane(5, 0)
            taken(0, 1) = -13
            taken(0, 3) = -13
            taken(0, 5) = -13
            taken(0, 6) = -13
            1..4: taken(1, #) = -13
            taken(1, 6) = -13
            """);
        THE.holds("40: -13: a STRIP taken for a PLANE", all + """
            0..5: taken(4, #) = -13
            0..5: taken(15, #) = -13
            """);
    }

    private static void takenRefuses() {
        THE.holds("40: BAD: kind", """
            plane(0, 0)
            strips 3
            taken(0, -1) = BAD
            taken(0, 7) = BAD
            taken(4, 7) = BAD
            taken(0, MIN) = BAD
            taken(0, MAX) = BAD
            """);
        THE.holds("40: -12: i", """
            taken(-1, 0) = -12
            taken(16, 0) = -12
            taken(16, 6) = -12
            taken(MIN, 0) = -12
            taken(MAX, 6) = -12
            """);
        THE.holds("40: -11: nothing lies there", """
            0..3: taken(#, 0) = -11
            4..15: taken(#, 6) = -11
            plane(0, 0)
            strips 3
            taken(0, 0) = 0
            taken(1, 0) = -11
            taken(4, 6) = 3
            taken(5, 6) = -11
            """);
        THE.holds("40: of BAD, -12, -11, -13 the first one told", """
            taken(16, 7) = BAD
            taken(-1, -1) = BAD
            taken(0, 7) = BAD
            taken(0, 6) = -11
            taken(3, 6) = -11
            taken(4, 0) = -11
            taken(15, 5) = -11
            """);
    }
}
