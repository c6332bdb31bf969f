import java.util.Random;

/** Texts by lots: most of them right, some of them spoiled in a place. */
final class TextLots {
    private static final String[] NAMES = {"hill", "wind", "more", "hour", "clicks", "row"};
    private static final String[] STRAY = {
        "(", ")", ";", "+", "-", "*", "<", "=", "not ", " and ", " or ", "sees ", "12345", "0007", "hills", "x", "!", "{",
        "`", "/", ":", "\n", " ", "\t", "A", "" + (char) 0, "" + (char) 255, "((((((", "not not not not not not ", "------",
    };

    private TextLots() {
    }

    static String text(Random lots) {
        String text = "";
        for (String part : new String[] {"sees", "drifts", "frosts"}) {
            String e = lots.nextInt(3) == 0 ? plain(part, lots) : either(lots, lots.nextInt(6));
            text += blank(lots) + part + " " + e + blank(lots) + ";";
        }
        text += blank(lots);
        if (lots.nextInt(3) == 0) {
            text = spoiled(text, lots);
        }
        return text.length() > 160 ? lots.nextInt(4) == 0 ? text.substring(0, 160) : text(lots) : text;
    }

    private static String plain(String part, Random lots) {
        switch (part) {
            case "sees": return "3 - hill + clicks * " + lots.nextInt(3);
            case "drifts": return "wind * " + lots.nextInt(4) + " - row";
            default: return "" + lots.nextInt(30);
        }
    }

    private static String spoiled(String text, Random lots) {
        int at = lots.nextInt(text.length() + 1);
        switch (lots.nextInt(4)) {
            case 0: return text.substring(0, at);
            case 1: return text.substring(0, at) + text.substring(Math.min(text.length(), at + 1 + lots.nextInt(4)));
            default: return text.substring(0, at) + STRAY[lots.nextInt(STRAY.length)] + text.substring(at);
        }
    }

    private static String blank(Random lots) {
        return new String[] {"", "", " ", "\n", "  "}[lots.nextInt(5)];
    }

    private static String either(Random lots, int size) {
        switch (size > 0 ? lots.nextInt(11) : 10) {
            case 0: return either(lots, size / 2) + " or " + either(lots, size / 2);
            case 1: return either(lots, size / 2) + " and " + either(lots, size / 2);
            case 2: return "not " + either(lots, size - 1);
            case 3: return either(lots, size / 2) + "<" + either(lots, size / 2);
            case 4: return either(lots, size / 2) + blank(lots) + "=" + either(lots, size / 2);
            case 5: return either(lots, size / 2) + "+" + either(lots, size / 2);
            case 6: return either(lots, size / 2) + "-" + blank(lots) + either(lots, size / 2);
            case 7: return either(lots, size / 2) + "*" + either(lots, size / 2);
            case 8: return "-" + either(lots, size - 1);
            case 9: return "(" + either(lots, size - 1) + blank(lots) + ")";
            default: return lots.nextInt(3) == 0 ? "" + lots.nextInt(lots.nextInt(4) == 0 ? 10000 : 12)
                : NAMES[lots.nextInt(NAMES.length)];
        }
    }
}
