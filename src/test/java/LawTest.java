/** Promises 6 to 9: feed, text, force, asks. */
public final class LawTest {
    private static final Checks CHECKS = new Checks("the law");

    public static void main(String[] args) {
        feed();
        rightTexts();
        faults();
        manyTexts();
        force();
        asksRefusals();
        whatSumsSay();
        whatNamesSay();
        theBounds();
        CHECKS.end();
    }

    private static void feed() {
        StripsFromAbove x = new StripsFromAbove();
        CHECKS.due("feed 0", x.feed(0, 1, 1, 1, 1, 1), -2);
        CHECKS.due("feed 6", x.feed(6, 1, 1, 1, 1, 1), -2);
        CHECKS.due("feed, a", x.feed(1, 256, 0, 0, 0, 0), -2);
        CHECKS.due("feed, a below", x.feed(1, -1, 0, 0, 0, 0), -2);
        CHECKS.due("feed, b", x.feed(1, 0, 256, 0, 0, 0), -2);
        CHECKS.due("feed, c", x.feed(1, 0, 0, -1, 0, 0), -2);
        CHECKS.due("feed, d", x.feed(1, 0, 0, 0, 256, 0), -2);
        CHECKS.due("feed, e", x.feed(5, 0, 0, 0, 0, -1), -2);
        CHECKS.due("none came", x.count(7), 0);
        for (int n = 1; n <= 5; n++) {
            CHECKS.due("feed " + n, x.feed(n, 32, 32, 32, 32, 32), n * (n + 1) / 2);
        }
        for (int n = 20; n <= 155; n += 5) {
            CHECKS.due("feed till " + n, x.feed(5, 0, 255, 32, 32, 32), n);
        }
        CHECKS.due("feed 3 more", x.feed(3, 32, 32, 32, 32, 32), 158);
        CHECKS.due("feed 3 at 158", x.feed(3, 32, 32, 32, 32, 32), -4);
        CHECKS.due("BAD ahead of FULL", x.feed(3, 32, 32, 32, 32, 256), -2);
        CHECKS.due("feed 2 at 158", x.feed(2, 32, 32, 32, 32, 32), 160);
        CHECKS.due("feed 1 at 160", x.feed(1, 32, 32, 32, 32, 32), -4);
        CHECKS.due("THE TAPE", x.count(7), 160);
    }

    private static int read(String text) {
        StripsFromAbove x = new StripsFromAbove();
        Checks.feed(x, text);
        int answer = x.text();
        CHECKS.due("THE TAPE behind text(), of: " + text, x.count(7), 0);
        CHECKS.due("TEXTS, of: " + text, x.count(5), answer < 0 ? 1 : 2);
        return answer;
    }

    private static void rightTexts() {
        String rest = "drifts 0;frosts 0;";
        String[] sees = {
            "sees 3 - hill ;", " \n sees\n3-hill  ;", "sees3;", "sees 9999;", "sees 0000;", "sees(((((1)))));",
            "sees not not not not not 1;", "sees -----1;", "sees not -(not -1);", "sees (not 1)+(not (((1))));",
            "sees 1<2;", "sees (1<2)<3;", "sees (((((3-2<1*2)))));", "sees 1+2-3*4;", "sees 1 or 0 and not 1 < 2;", "sees 1--1;", "sees -1--1;",
            "sees hill*wind*more*hour*clicks*row;",
            "sees -1 - -1 - -1 - -1 - -1 - -1 - -1;", "sees not 1 and not 1 and not 1 and not 1 and not 1 and not 1;",
        };
        for (String part : sees) {
            CHECKS.due("right: " + part, read(part + rest), 1);
        }
        CHECKS.due("blanks behind", read("sees 3;drifts wind;frosts 0; \n "), 1);
        CHECKS.due("no blanks", read("sees3;drifts3;frosts3;"), 1);
    }

    private static void fault(String text, int place) {
        CHECKS.due("FAULT of: " + text, read(text), -100 - place);
    }

    private static void faults() {
        fault("", 0);
        fault("   ", 3);
        fault("sees", 4);
        fault("sees 3", 6);
        fault("sees 3 ", 7);
        fault("sees 3;", 7);
        fault("sees 3;drifts 0;frosts 0", 24);
        fault("sees 3;drifts 0;frosts 0;x", 25);
        fault("sees 3;drifts 0;frosts 0;;", 25);
        fault("sees 3;drifts 0;frosts 0;  sees", 27);
        fault("see 3;", 0);
        fault("seess 3;", 0);
        fault("Sees 3;", 0);
        fault(" drifts 3;", 1);
        fault("sees 3;sees 3;", 7);
        fault("sees 3;driftswind;", 7);
        fault("sees 12345;", 5);
        fault("sees 00000;", 5);
        fault("sees 1234567890123456789012345;", 5);
        fault("sees hills;", 5);
        fault("sees hil;", 5);
        fault("sees dill;", 5);
        fault("sees hillz;", 5);
        fault("sees ahill;", 5);
        fault("sees clicksx;", 5);
        fault("sees hillhill;", 5);
        fault("sees -x 1;", 6);
        fault("sees (x 1);", 6);
        fault("sees not x 1;", 9);
        fault("sees -! 1;", 6);
        fault("sees -12345 1;", 6);
        fault("sees drifts;", 5);
        fault("sees 3 ! ;", 7);
        fault("sees 3\t;", 6);
        fault("sees " + (char) 0 + ";", 5);
        fault("sees " + (char) 255 + ";", 5);
        fault("sees `;", 5);
        fault("sees {;", 5);
        fault("sees /;", 5);
        fault("sees :;", 5);
        fault("sees ;", 5);
        fault("sees );", 5);
        fault("sees (1;", 7);
        fault("sees (1));", 8);
        fault("sees ();", 6);
        fault("sees 1 2;", 7);
        fault("sees 2hill;", 6);
        fault("sees hill wind;", 10);
        fault("sees -;", 6);
        fault("sees 1 +;", 8);
        fault("sees 1 * + 2;", 9);
        fault("sees 1<2<3;", 8);
        fault("sees 1=2<3;", 8);
        fault("sees 1 + not 2;", 9);
        fault("sees 1 < not 2;", 9);
        fault("sees - not 2;", 7);
        fault("sees or 2;", 5);
        fault("sees 1 and or 2;", 11);
        fault("sees 1 and and 2;", 11);
        fault("sees not;", 8);
        fault("sees ((((((1))))));", 10);
        fault("sees not not not not not not 1;", 25);
        fault("sees ------1;", 10);
        fault("sees not -(not -(1));", 16);
        fault("sees not not not not not (1);", 25);
        fault("sees not not not not not 1 < -1;", 29);
        fault("sees not not not not not 1 * 2 + 3 = (1);", 37);
        fault("sees (((((1))))) + ((((((1))))));", 24);
        fault("sees 1;drifts ((((((1))))));", 19);
    }

    private static void manyTexts() {
        StripsFromAbove x = new StripsFromAbove();
        for (int t = 1; t < 6; t++) {
            Checks.feed(x, "sees " + t + ";drifts 0;frosts 0;");
            CHECKS.due("text " + t, x.text(), t);
            Checks.feed(x, "sees " + t + ";drifts 0;frosts 0 0;");
            CHECKS.due("a FAULT behind text " + t, x.text(), t < 5 ? -125 : -4);
        }
        CHECKS.due("THE TAPE stays", x.count(7), 27);
        CHECKS.due("text() once more", x.text(), -4);
        x.plane(0, 0);
        for (int t = 1; t < 6; t++) {
            x.force(t);
            CHECKS.due("text " + t + " says", x.asks(0, 0, 0, 0), t);
        }
        x.force(0);
        CHECKS.due("TEXT 0 says", x.asks(0, 0, 0, 0), 3);
    }

    private static void force() {
        StripsFromAbove x = new StripsFromAbove();
        CHECKS.due("force(1), none such", x.force(1), -2);
        CHECKS.due("force(-1)", x.force(-1), -2);
        CHECKS.due("force(0)", x.force(0), 0);
        Checks.feed(x, "sees 1;drifts 0;frosts 0;");
        x.text();
        CHECKS.due("THE LAW is not the newest", x.count(6), 0);
        CHECKS.due("force(1)", x.force(1), 0);
        CHECKS.due("THE LAW", x.count(6), 1);
        CHECKS.due("force(2)", x.force(2), -2);
        CHECKS.due("force(0) again", x.force(0), 1);
    }

    private static void asksRefusals() {
        StripsFromAbove x = new StripsFromAbove();
        CHECKS.due("asks, no plane", x.asks(0, 0, 0, 0), -1000);
        x.plane(0, 0);
        CHECKS.due("asks", x.asks(0, 0, 0, 0), 3);
        CHECKS.due("asks, last ones", x.asks(2, 0, 191, 200), 0);
        int[][] wrong = {{-1, 0, 0, 0}, {3, 0, 0, 0}, {0, -1, 0, 0}, {0, 1, 0, 0}, {0, 0, -1, 0}, {0, 0, 192, 0}, {0, 0, 0, -1}, {0, 0, 0, 201}};
        for (int[] w : wrong) {
            CHECKS.due("asks, wrong", x.asks(w[0], w[1], w[2], w[3]), -1000);
        }
    }

    private static void says(String e, int want) {
        StripsFromAbove x = Checks.withPlane(0, 0);
        Checks.law(x, "sees 0;drifts " + e + ";frosts 0;");
        CHECKS.due(e, x.asks(1, 0, 0, 0), want);
    }

    private static void whatSumsSay() {
        says("5", 5);
        says("-5", -5);
        says("--5", 5);
        says("1+2*3", 7);
        says("2*3+1", 7);
        says("9-2-3", 4);
        says("9-(2-3)*1", 9);
        says("9-(2+3)", 4);
        says("-2*3", -6);
        says("2*-3", -6);
        says("3--2", 5);
        says("-1+3", 2);
        says("1<2", 1);
        says("2<2", 0);
        says("-2<-1", 1);
        says("2=2", 1);
        says("1+1=2", 1);
        says("1=2", 0);
        says("not 0", 1);
        says("not 7", 0);
        says("not not 7", 1);
        says("not 0 + 5", 0);
        says("not 2 < 1", 1);
        says("(not 0) + 5", 6);
        says("5 and 7", 1);
        says("5 and 0", 0);
        says("0 and 5", 0);
        says("5 or 0", 1);
        says("0 or 0", 0);
        says("0 or -3", 1);
        says("7 or 0 and 0", 1);
        says("0 and 0 or 7", 1);
        says("(7 or 0) and 0", 0);
        says("not 1 or 1", 1);
        says("not (1 or 1)", 0);
        says("9999*9999*9999<0", 1);
        says("9999*9999*99 = -9999*-9999*99", 1);
        says("9999*9999*22<0", 1);
        says("9999*9999*21<0", 0);
        says("0012-8", 4);
    }

    private static void whatNamesSay() {
        StripsFromAbove x = Checks.withPlane(0, 7);
        x.plane(0, 2);
        x.set(0, -4);
        x.set(1, 3);
        x.land(100, 0, 6);
        String[] names = {"hill", "wind", "more", "hour", "row"};
        int[] first = {6, -4, 7, 3, 8};
        int[] second = {0, -4, 2, 3, 9};
        for (int n = 0; n < names.length; n++) {
            CHECKS.due("a law of " + names[n], Checks.law(x, "sees 0;drifts " + names[n] + ";frosts 0;"), n + 1);
            CHECKS.due(names[n], x.asks(1, 0, 100, 0), first[n]);
            CHECKS.due(names[n] + " elsewhere", x.asks(1, 1, 108, 0), second[n]);
        }
        StripsFromAbove y = Checks.withPlane(4, 9);
        Checks.law(y, "sees clicks;drifts clicks-195;frosts clicks;");
        CHECKS.due("clicks as told, no KIND asked", y.asks(0, 0, 0, 4), 4);
        CHECKS.due("clicks 200", y.asks(1, 0, 0, 200), 5);
        CHECKS.due("clicks 77", y.asks(2, 0, 0, 77), 77);
    }

    private static void theBounds() {
        StripsFromAbove x = Checks.withPlane(0, 0);
        Checks.law(x, "sees 0-clicks;drifts 0-clicks;frosts 0-clicks;");
        Checks.law(x, "sees clicks;drifts clicks;frosts clicks;");
        int[] least = {0, -9, 0};
        int[] most = {9, 9, 100};
        for (int part = 0; part < 3; part++) {
            x.force(1);
            CHECKS.due("least of part " + part, x.asks(part, 0, 0, 200), least[part]);
            x.force(2);
            CHECKS.due("most of part " + part, x.asks(part, 0, 0, 200), most[part]);
            CHECKS.due("at the most of part " + part, x.asks(part, 0, 0, most[part]), most[part]);
            CHECKS.due("below the most of part " + part, x.asks(part, 0, 0, most[part] - 1), most[part] - 1);
        }
        x.force(1);
        CHECKS.due("at the least drift", x.asks(1, 0, 0, 9), -9);
        CHECKS.due("above the least drift", x.asks(1, 0, 0, 8), -8);
    }
}
