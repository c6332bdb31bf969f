/** Each sentence that names a boundary case: A FLIGHT, its STRIPS, STEPS and CLICKS; promises 16 to 18. */
public final class FlightSentencesTest {
    private static final Sentences THE = new Sentences("sentences of a flight");
    /** Laws by which one is not borne aside, and sees no further than the LINE, or 2 to either side. */
    private static final String NARROW = "law \"sees 0;drifts 0;frosts 0;\"\n", WIDER = "law \"sees 2;drifts 0;frosts 0;\"\n";

    public static void main(String[] args) {
        nothingFlown();
        whoFlies();
        turns();
        steps();
        borneAside();
        driftsToldOnce();
        fuel();
        every();
        film();
        outOfTheCountry();
        hours();
        frosts();
        covers();
        clicksSoFar();
        flight();
        seen();
        gap();
        THE.end();
    }

    private static void nothingFlown() {
        String nothing = """
            flight(0) = 0
            flight(1) = 0
            flight(2) = 192
            flight(3) = 0
            flight(4) = 0
            flight(5) = 0
            flight(6) = 0
            seen(0) = 0
            seen(191) = 0
            gap(0) = 0
            gap(191) = 191
            """;
        THE.holds("2: none flies: nothing is flown", "plane(0, 0)\nstrips 3 204\nset(2, -1)\n" + nothing);
        THE.holds("2: there is no PLANE: nothing is flown", "strips 3 204\n" + nothing);
        THE.holds("2: there are no STRIPS: nothing is flown", "plane(0, 0)\n" + nothing);
        THE.holds("2: no FUEL: nothing is flown", "plane(0, 0)\nload(0, 0, 0)\nstrips 3 204\n" + nothing);
    }

    private static void whoFlies() {
        THE.holds("2: A FLIGHT of WHO FLIES, with its FUEL, FILM, EVERY", """
            plane(0, 0)
            plane(0, 0)
            strips 3
            load(1, 2, 1)
            load(1, 1, 15)
            load(1, 0, 15)
            flight(3) = 8
            flight(5) = 16
            set(2, 1)
            flight(3) = 15
            flight(5) = 15
            load(0, 0, 0)
            load(0, 1, 0)
            flight(3) = 15
            load(1, 0, 16)
            flight(6) = 1
            set(2, 0)
            flight(3) = 0
            """);
        THE.holds("2: A FLIGHT of WHO FLIES, by its KIND and MORE", """
            plane(0, 0)
            plane(3, 9)
            strips 3 3
            flight(5) = 36
            set(2, 1)
            flight(5) = 41
            """);
    }

    private static void turns() {
        THE.holds("2: a TURN's minutes ahead of each STRIP but the first", """
            plane(0, 0)
            strips 3
            flight(5) = 16
            strips 3
            flight(5) = 36
            strips 203
            flight(5) = 52
            1..9: strip(0, 0)
            flight(5) = 232
            flight(6) = 12
            """);
        THE.holds("2: no TURN behind the last STRIP, nor behind one that wasn't flown to its end", """
            plane(0, 0)
            strips 3 3 3
            load(0, 0, 15)
            flight(5) = 15
            flight(6) = 0
            """);
        THE.holds("2: a TURN's minutes pass; in each STEP FUEL is asked", """
            plane(0, 0)
            strips 3 3 3
            load(0, 0, 16)
            flight(5) = 20
            flight(6) = 1
            flight(3) = 8
            load(0, 0, 20)
            flight(5) = 20
            flight(3) = 8
            load(0, 0, 21)
            flight(5) = 21
            flight(3) = 9
            """);
    }

    private static void steps() {
        THE.holds("2: 16 STEPS along, 12 across", """
            plane(0, 0)
            load(0, 2, 1)
            strips 3
            flight(3) = 16
            flight(5) = 16
            drop(0)
            strips 103
            flight(3) = 16
            flight(5) = 16
            drop(0)
            strips 203
            flight(3) = 12
            flight(5) = 12
            drop(0)
            strips 303
            flight(3) = 12
            flight(5) = 12
            """);
        THE.holds("2: STEP 0 is over ROW 0 (along)", "plane(0, 0)\n" + NARROW + """
            load(0, 1, 1)
            strips 5
            seen(5) = 1
            seen(17) = 1
            flight(0) = 2
            """);
        THE.holds("2: STEP 0 is over COLUMN 0 (across)", "plane(0, 0)\n" + NARROW + """
            load(0, 1, 1)
            strips 205
            seen(60) = 1
            seen(61) = 1
            flight(0) = 2
            """);
        THE.holds("2: STEP 0 back is over the last one: ROW 15", "plane(0, 0)\n" + NARROW + """
            load(0, 1, 1)
            strips 105
            seen(185) = 1
            seen(173) = 1
            flight(0) = 2
            """);
        THE.holds("2: STEP 0 back is over the last one: COLUMN 11", "plane(0, 0)\n" + NARROW + """
            load(0, 1, 1)
            strips 305
            seen(71) = 1
            seen(70) = 1
            flight(0) = 2
            """);
        THE.holds("2: the last STEP is over ROW 15, back over ROW 0", "plane(0, 0)\n" + NARROW + """
            load(0, 2, 5)
            strips 5
            seen(185) = 1
            seen(173) = 1
            seen(29) = 0
            drop(0)
            strips 105
            seen(5) = 1
            seen(17) = 1
            seen(161) = 0
            """);
        THE.holds("2: the last STEP is over COLUMN 11, back over COLUMN 0", "plane(0, 0)\n" + NARROW + """
            load(0, 2, 1)
            land(71, 0, 9)
            land(60, 0, 9)
            law "sees hill;drifts 0;frosts (hill=0)*100;"
            strips 205
            flight(4) = 10
            load(0, 0, 11)
            flight(4) = 10
            seen(191) = 0
            drop(0)
            strips 305
            flight(4) = 10
            load(0, 0, 12)
            flight(4) = 10
            seen(0) = 1
            """);
    }

    private static void borneAside() {
        THE.holds("2: LINE and DRIFTS times i by how many STEPS it has: 9 times 15 by 16", """
            plane(0, 0)
            law "sees 0;drifts 9;frosts 0;"
            load(0, 2, 5)
            strips 1
            seen(1) = 1
            seen(63) = 1
            seen(126) = 1
            seen(189) = 1
            flight(0) = 10
            """);
        THE.holds("2: LINE and DRIFTS times i by how many STEPS it has: 9 times 10 by 12", """
            plane(0, 0)
            law "sees 0;drifts 9;frosts 0;"
            load(0, 2, 5)
            strips 201
            seen(12) = 1
            seen(53) = 1
            seen(106) = 1
            flight(0) = 8
            """);
        THE.holds("2: cut toward 0 above 0: 1 times 15 by 16", """
            plane(0, 0)
            law "sees 0;drifts 1;frosts 0;"
            load(0, 2, 5)
            strips 5
            seen(185) = 1
            seen(186) = 0
            """);
        THE.holds("2: cut toward 0 below 0: -1 times 15 by 16, along", """
            plane(0, 0)
            law "sees 0;drifts -1;frosts 0;"
            load(0, 2, 5)
            strips 5
            seen(185) = 1
            seen(184) = 0
            """);
        THE.holds("2: cut toward 0 below 0: -9 times 15 by 16, along", """
            plane(0, 0)
            law "sees 0;drifts -9;frosts 0;"
            load(0, 2, 5)
            strips 9
            seen(181) = 1
            seen(180) = 0
            """);
        THE.holds("2: cut toward 0 below 0: -1 times 10 by 12, across", """
            plane(0, 0)
            law "sees 0;drifts -1;frosts 0;"
            load(0, 2, 5)
            strips 205
            seen(70) = 1
            seen(58) = 0
            """);
    }

    private static void driftsToldOnce() {
        String byHills = "plane(0, 0)\nload(0, 2, 5)\nlaw \"sees 0;drifts hill;frosts 0;\"\n";
        THE.holds("2: DRIFTS is told once, of the MILE of STEP 0, along", byHills + """
            land(2, 0, 8)
            land(62, 0, 1)
            land(182, 0, 1)
            strips 2
            seen(189) = 1
            """);
        THE.holds("2: DRIFTS is told once, of the MILE of STEP 0, back", byHills + """
            land(182, 0, 8)
            land(2, 0, 1)
            strips 102
            seen(9) = 1
            """);
        THE.holds("2: DRIFTS is told once, of the MILE of STEP 0, across", byHills + """
            land(48, 0, 8)
            land(59, 0, 1)
            strips 204
            seen(130) = 1
            """);
        THE.holds("2: DRIFTS is told once, of the MILE of STEP 0, across, back", byHills + """
            land(59, 0, 8)
            land(48, 0, 1)
            strips 304
            seen(121) = 1
            """);
        THE.holds("2: DRIFTS is told of each STRIP anew", byHills + """
            land(2, 0, 8)
            strips 2 10
            seen(189) = 1
            seen(190) = 1
            flight(4) = 0
            """);
    }

    private static void fuel() {
        THE.holds("2: minutes so far, and a mile's, are as many as FUEL", """
            plane(0, 0)
            strips 3
            load(0, 0, 16)
            flight(5) = 16
            flight(6) = 1
            load(0, 0, 1)
            flight(5) = 1
            flight(3) = 1
            """);
        THE.holds("2: they are one more than FUEL: THE FLIGHT ends", """
            plane(0, 0)
            load(0, 2, 1)
            strips 3
            load(0, 0, 15)
            flight(5) = 15
            flight(3) = 15
            flight(6) = 0
            """);
        THE.holds("2: a mile's minutes are 2", """
            plane(2, 0)
            strips 3
            load(0, 0, 1)
            flight(5) = 0
            flight(3) = 0
            load(0, 0, 2)
            flight(5) = 2
            flight(3) = 1
            load(0, 0, 3)
            flight(5) = 2
            load(0, 0, 31)
            flight(5) = 30
            flight(6) = 0
            load(0, 0, 32)
            flight(6) = 1
            """);
        THE.holds("2: THE FLIGHT ends: no shorter STRIP is flown then", """
            plane(0, 0)
            strips 3 203
            load(0, 0, 15)
            flight(5) = 15
            flight(6) = 0
            flight(3) = 8
            """);
        THE.holds("2: the most FUEL, the most minutes", """
            plane(2, 0)
            load(0, 0, 999)
            0..11: strip(0, #)
            flight(5) = 472
            flight(6) = 12
            load(0, 0, 471)
            flight(5) = 470
            flight(6) = 11
            """);
    }

    private static void every() {
        THE.holds("2: i is divided by EVERY, along", """
            plane(0, 0)
            strips 3
            load(0, 2, 1)
            flight(3) = 16
            load(0, 2, 2)
            flight(3) = 8
            load(0, 2, 3)
            flight(3) = 6
            load(0, 2, 5)
            flight(3) = 4
            load(0, 2, 7)
            flight(3) = 3
            load(0, 2, 8)
            flight(3) = 2
            load(0, 2, 9)
            flight(3) = 2
            """);
        THE.holds("2: i is divided by EVERY, across", """
            plane(0, 0)
            strips 203
            load(0, 2, 1)
            flight(3) = 12
            load(0, 2, 4)
            flight(3) = 3
            load(0, 2, 5)
            flight(3) = 3
            load(0, 2, 6)
            flight(3) = 2
            load(0, 2, 9)
            flight(3) = 2
            """);
        THE.holds("2: i is counted from 0 on in each STRIP", """
            plane(0, 0)
            load(0, 2, 9)
            strips 3 103 203 303
            flight(3) = 8
            seen(3) = 2
            """);
    }

    private static void film() {
        THE.holds("2: fewer CLICKS than FILM: of 0 none", """
            plane(0, 0)
            strips 3
            load(0, 1, 0)
            flight(3) = 0
            flight(0) = 0
            flight(5) = 16
            flight(6) = 1
            """);
        THE.holds("2: fewer CLICKS than FILM", """
            plane(0, 0)
            strips 3 3
            load(0, 1, 1)
            flight(3) = 1
            load(0, 1, 8)
            flight(3) = 8
            load(0, 1, 9)
            flight(3) = 9
            load(0, 1, 15)
            flight(3) = 15
            load(0, 1, 16)
            flight(3) = 16
            load(0, 1, 999)
            flight(3) = 16
            flight(5) = 36
            """);
        THE.holds("2: a CLICK that is LOST takes FILM, too", """
            plane(0, 0)
            law "sees 0;drifts 0;frosts clicks<3;"
            strips 3
            law "sees 0;drifts 0;frosts (clicks<3)*100;"
            load(0, 1, 3)
            flight(3) = 3
            flight(4) = 2
            flight(0) = 3
            load(0, 1, 2)
            flight(3) = 2
            flight(4) = 2
            flight(0) = 0
            """);
    }

    private static void outOfTheCountry() {
        String byNine = "plane(0, 0)\nload(0, 2, 5)\nlaw \"sees 9;drifts 9;frosts 0;\"\n";
        String byLess = "plane(0, 0)\nload(0, 2, 5)\nlaw \"sees 9;drifts -9;frosts 0;\"\n";
        THE.holds("2: out of the country behind COLUMN 11: LOST, covers nothing", byNine + """
            strips 3
            flight(4) = 0
            seen(191) = 1
            drop(0)
            strips 4
            flight(3) = 4
            flight(4) = 1
            seen(191) = 0
            """);
        THE.holds("2: out of the country ahead of COLUMN 0: LOST, covers nothing", byLess + """
            strips 8
            flight(4) = 0
            seen(180) = 1
            drop(0)
            strips 7
            flight(3) = 4
            flight(4) = 1
            seen(180) = 0
            """);
        THE.holds("2: out of the country behind ROW 15: LOST, covers nothing", byNine + """
            strips 208
            flight(4) = 0
            seen(191) = 1
            drop(0)
            strips 209
            flight(3) = 3
            flight(4) = 1
            seen(191) = 0
            """);
        THE.holds("2: out of the country ahead of ROW 0: LOST, covers nothing", byLess + """
            strips 207
            flight(4) = 0
            seen(11) = 1
            drop(0)
            strips 206
            flight(3) = 3
            flight(4) = 1
            seen(11) = 0
            """);
    }

    private static void hours() {
        THE.holds("2: the hour is below 10: LOST", """
            plane(0, 0)
            strips 3
            set(1, 0)
            flight(4) = 8
            set(1, 9)
            flight(4) = 8
            flight(3) = 8
            flight(0) = 0
            set(1, 10)
            flight(4) = 0
            """);
        THE.holds("2: the hour is 14 or more: LOST", """
            plane(0, 0)
            strips 3
            set(1, 13)
            flight(4) = 0
            set(1, 14)
            flight(4) = 8
            flight(3) = 8
            flight(0) = 0
            set(1, 23)
            flight(4) = 8
            """);
        // The fourth STRIP across begins behind minute 48, so that its last STEP ends with minute 60.
        THE.holds("2: HOUR, and minutes by 60, cut: hour 10 begins with minute 60 of hour 9", """
            plane(0, 0)
            load(0, 2, 1)
            strips 200 200 200 200
            set(1, 9)
            flight(3) = 48
            flight(5) = 60
            flight(4) = 47
            seen(11) = 1
            seen(10) = 1
            seen(9) = 0
            """);
        THE.holds("2: HOUR, and minutes by 60, cut: hour 14 begins with minute 60 of hour 13", """
            plane(0, 0)
            load(0, 2, 1)
            strips 200 200 200 200
            set(1, 13)
            flight(4) = 1
            set(1, 12)
            flight(4) = 0
            """);
        THE.holds("2: minutes by 60: a second hour begins with minute 120", """
            plane(0, 0)
            load(0, 2, 1)
            1..8: strip(2, 0)
            set(1, 12)
            flight(3) = 96
            flight(4) = 5
            set(1, 8)
            flight(4) = 91
            set(1, 11)
            flight(4) = 0
            """);
        THE.holds("THE LAW: hour: HOUR, however many minutes are flown", """
            plane(0, 0)
            1..8: strip(2, 0)
            law "sees 0;drifts 0;frosts (hour=11)*100;"
            flight(5) = 124
            flight(4) = 0
            set(1, 11)
            flight(3) = 48
            flight(4) = 48
            """);
        THE.holds("2: the hour goes on behind midnight, and is 14 or more", """
            plane(2, 0)
            load(0, 0, 999)
            0..11: strip(0, #)
            set(1, 23)
            flight(3) = 96
            flight(4) = 96
            """);
    }

    private static void frosts() {
        String all = "plane(0, 0)\nload(0, 2, 1)\n0..11: strip(0, #)\n";
        THE.holds("2: CLICKS ahead of it are below frosts: of 0 none is LOST", all + """
            law "sees 0;drifts 0;frosts 0;"
            flight(3) = 192
            flight(4) = 0
            """);
        THE.holds("2: CLICKS ahead of it modulo 100: 0 and 100 are below 1", all + """
            law "sees 0;drifts 0;frosts 1;"
            flight(4) = 2
            load(0, 1, 101)
            flight(4) = 2
            load(0, 1, 100)
            flight(4) = 1
            load(0, 1, 1)
            flight(4) = 1
            """);
        THE.holds("2: CLICKS ahead of it modulo 100: 99 alone is not below 99", all + """
            law "sees 0;drifts 0;frosts 99;"
            flight(4) = 191
            load(0, 1, 99)
            flight(4) = 99
            load(0, 1, 100)
            flight(4) = 99
            """);
        THE.holds("2: frosts 100: each CLICK is LOST", all + """
            law "sees 0;drifts 0;frosts 100;"
            flight(3) = 192
            flight(4) = 192
            flight(0) = 0
            """);
        THE.holds("2: frosts of that MILE", """
            plane(0, 0)
            strips 3
            law "sees 0;drifts 0;frosts hill*100;"
            land(51, 0, 1)
            land(63, 0, 1)
            land(74, 0, 1)
            flight(4) = 1
            seen(51) = 0
            """);
        THE.holds("2: frosts of that MILE, borne aside", """
            plane(0, 0)
            load(0, 2, 5)
            strips 0
            law "sees 0;drifts 9;frosts hill*100;"
            land(120, 0, 1)
            flight(4) = 0
            land(125, 0, 1)
            flight(4) = 1
            """);
    }

    private static void covers() {
        THE.holds("2: it COVERS no further aside than one SEES, no further than 1 the other way (along)", "plane(0, 0)\n" + WIDER + """
            load(0, 2, 8)
            load(0, 1, 2)
            strips 5
            seen(98) = 0
            seen(99) = 1
            seen(103) = 1
            seen(104) = 0
            seen(77) = 0
            seen(87) = 1
            seen(89) = 1
            seen(113) = 1
            seen(125) = 0
            flight(0) = 25
            """);
        THE.holds("2: it COVERS no further aside than one SEES, no further than 1 the other way (across)", "plane(0, 0)\n" + WIDER + """
            load(0, 2, 8)
            load(0, 1, 2)
            strips 205
            seen(32) = 0
            seen(44) = 1
            seen(92) = 1
            seen(104) = 0
            seen(66) = 0
            seen(67) = 1
            seen(69) = 1
            seen(70) = 0
            flight(0) = 25
            """);
        THE.holds("2: it COVERS no MILES behind the country's edges (along)", "plane(0, 0)\n" + WIDER + """
            load(0, 1, 1)
            strips 0
            flight(0) = 6
            seen(2) = 1
            seen(14) = 1
            seen(11) = 0
            drop(0)
            strips 11
            flight(0) = 6
            seen(9) = 1
            seen(23) = 1
            seen(12) = 0
            seen(24) = 0
            drop(0)
            strips 111
            flight(0) = 6
            seen(191) = 1
            seen(177) = 1
            drop(0)
            strips 100
            flight(0) = 6
            seen(180) = 1
            seen(179) = 0
            """);
        THE.holds("2: it COVERS no MILES behind the country's edges (across)", "plane(0, 0)\n" + WIDER + """
            load(0, 1, 1)
            strips 200
            flight(0) = 6
            seen(25) = 1
            seen(36) = 0
            drop(0)
            strips 215
            flight(0) = 6
            seen(156) = 1
            seen(144) = 0
            drop(0)
            strips 315
            flight(0) = 6
            seen(191) = 1
            seen(166) = 1
            drop(0)
            strips 301
            flight(0) = 8
            seen(47) = 1
            seen(48) = 0
            """);
        THE.holds("2: on which there is no CLOUD", "plane(0, 0)\n" + NARROW + """
            strips 3
            land(3, 1, 1)
            land(183, 1, 1)
            flight(0) = 14
            flight(3) = 8
            flight(4) = 0
            seen(3) = 0
            seen(15) = 2
            seen(183) = 0
            land(3, 1, 0)
            seen(3) = 1
            """);
        THE.holds("2: once more, of each CLICK", "plane(0, 0)\n" + NARROW + """
            load(0, 2, 1)
            strips 3
            seen(3) = 2
            seen(15) = 3
            seen(183) = 2
            strips 3
            seen(15) = 6
            strips 201
            seen(15) = 9
            """);
    }

    private static void clicksSoFar() {
        THE.holds("THE LAW: CLICKS so far, of sees that one, too", """
            plane(0, 0)
            load(0, 2, 5)
            law "sees clicks;drifts 0;frosts 0;"
            strips 5
            flight(0) = 60
            seen(3) = 0
            seen(4) = 1
            """);
        THE.holds("THE LAW: CLICKS so far, of frosts that one, too", """
            plane(0, 0)
            strips 5
            law "sees 0;drifts 0;frosts clicks;"
            flight(4) = 8
            law "sees 0;drifts 0;frosts clicks-1;"
            flight(4) = 0
            """);
        THE.holds("THE LAW: CLICKS so far, of drifts those ahead of the STRIP", """
            plane(0, 0)
            load(0, 2, 5)
            law "sees 0;drifts clicks;frosts 0;"
            strips 0 5
            seen(180) = 1
            seen(188) = 1
            seen(189) = 0
            """);
        THE.holds("THE LAW: CLICKS so far, LOST ones, too", """
            plane(0, 0)
            strips 5
            law "sees 0;drifts 0;frosts (clicks<5)*100;"
            flight(3) = 8
            flight(4) = 4
            """);
    }

    // ---- promises 16 to 18

    private static void flight() {
        THE.holds("16: COVERED (what 0), twice at least (1), not at all (2): each MILE", """
            plane(0, 0)
            law "sees 1;drifts 0;frosts 0;"
            strips 1 4 7 10
            flight(0) = 192
            flight(1) = 84
            flight(2) = 0
            strips 1 4 7 10
            flight(0) = 192
            flight(1) = 192
            """);
        THE.holds("16: twice at least: thrice, too, and once not", "plane(0, 0)\n" + NARROW + """
            load(0, 2, 1)
            strips 3
            flight(1) = 16
            load(0, 2, 3)
            flight(0) = 16
            flight(1) = 0
            """);
        THE.holds("16: CLICKS (what 3), LOST ones (4), minutes (5), STRIPS that are flown to their end (6)", """
            plane(0, 0)
            strips 3 3
            load(0, 0, 35)
            flight(3) = 16
            flight(4) = 0
            flight(5) = 35
            flight(6) = 1
            load(0, 0, 36)
            flight(6) = 2
            """);
        THE.holds("16: BAD", """
            plane(0, 0)
            strips 3
            flight(-1) = BAD
            flight(7) = BAD
            flight(MIN) = BAD
            flight(MAX) = BAD
            new
            flight(-1) = BAD
            flight(7) = BAD
            """);
    }

    private static void seen() {
        THE.holds("17: MILES 0 and 191", "plane(0, 0)\n" + NARROW + """
            strips 0 11
            seen(0) = 1
            seen(191) = 1
            seen(12) = 2
            seen(1) = 0
            """);
        THE.holds("17: -5: no such MILE", """
            plane(0, 0)
            strips 0 11
            seen(-1) = -5
            seen(192) = -5
            seen(MIN) = -5
            seen(MAX) = -5
            new
            seen(-1) = -5
            seen(192) = -5
            """);
    }

    private static void gap() {
        THE.holds("18: number k of the MILES, from the least on, that aren't COVERED", """
            plane(0, 0)
            law "sees 1;drifts 0;frosts 0;"
            strips 1 4 7 10
            gap(0) = -1
            land(191, 1, 1)
            gap(0) = 191
            gap(1) = -1
            land(0, 1, 1)
            gap(0) = 0
            gap(1) = 191
            gap(2) = -1
            """);
        THE.holds("18: the last one, 191 of 192", """
            gap(0) = 0
            gap(1) = 1
            gap(190) = 190
            gap(191) = 191
            """);
        THE.holds("18: -1: there are fewer", "plane(0, 0)\n" + NARROW + """
            strips 0
            gap(175) = 191
            gap(176) = -1
            gap(191) = -1
            """);
        THE.holds("18: -7 (asked first): k", """
            gap(-1) = -7
            gap(192) = -7
            gap(MIN) = -7
            gap(MAX) = -7
            plane(0, 0)
            law "sees 1;drifts 0;frosts 0;"
            strips 1 4 7 10
            gap(-1) = -7
            gap(192) = -7
            gap(191) = -1
            """);
    }
}
