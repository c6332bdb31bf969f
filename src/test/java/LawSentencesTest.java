/** Each sentence that names a boundary case: THE TAPE, TEXTS, their FAULTS, what they say; promises 6 to 9. */
public final class LawSentencesTest {
    private static final Sentences THE = new Sentences("sentences of the law");
    /** The greatest int, of numbers that are short enough. */
    private static final String MOST = "(21*9999*9999+4790*9999+8416)";

    public static void main(String[] args) {
        feed();
        feedRefuses();
        text();
        words();
        wordsThatAreNone();
        numbers();
        signsAndBlanks();
        textsOfThreeParts();
        whatAnEIs();
        faultsByTheirPlace();
        fiveAreOpen();
        tillTheyEnd();
        anEIsAnInt();
        oneOrZero();
        manyTexts();
        theLaw();
        names();
        asks();
        force();
        THE.end();
    }

    // ---- helpers

    /** Each text has a FAULT where a ^ stands in it. */
    private static void faults(String sentence, String... texts) {
        StringBuilder run = new StringBuilder();
        for (String text : texts) {
            int place = text.indexOf('^');
            String bytes = text.replace("^", "").replace("\n", "\\n");
            run.append("new\ntext \"").append(bytes).append("\" = ").append(-100 - place).append('\n');
            run.append("count(5) = 1\ncount(7) = 0\n");
        }
        THE.holds(sentence, run.toString());
    }

    /** Each is no E, but has a FAULT where a ^ stands in it. */
    private static void noE(String sentence, String... es) {
        String[] texts = new String[es.length];
        for (int i = 0; i < es.length; i++) {
            texts[i] = "sees " + es[i] + ";drifts 0;frosts 0;";
        }
        faults(sentence, texts);
    }

    private static void right(String sentence, String... texts) {
        StringBuilder run = new StringBuilder();
        for (String text : texts) {
            run.append("new\ntext \"").append(text.replace("\n", "\\n")).append("\" = 1\ncount(5) = 2\ncount(7) = 0\n");
        }
        THE.holds(sentence, run.toString());
    }

    private static void isE(String sentence, String... es) {
        String[] texts = new String[es.length];
        for (int i = 0; i < es.length; i++) {
            texts[i] = "sees " + es[i] + ";drifts 0;frosts 0;";
        }
        right(sentence, texts);
    }

    /** Each E says what stands behind the last colon (as drifts does, -9 .. 9). */
    private static void says(String sentence, String... es) {
        StringBuilder run = new StringBuilder();
        for (String e : es) {
            int colon = e.lastIndexOf(':');
            run.append("new\nplane(0, 0)\nlaw \"sees 0;drifts ").append(e, 0, colon).append(";frosts 0;\"\n");
            run.append("asks(1, 0, 0, 0) = ").append(e.substring(colon + 1).trim()).append('\n');
        }
        THE.holds(sentence, run.toString());
    }

    // ---- promise 6

    private static void feed() {
        THE.holds("6: the first n (1 .. 5) come: how many it has", """
            feed(1, 32, 33, 33, 33, 33) = 1
            feed(2, 32, 32, 33, 33, 33) = 3
            feed(3, 32, 32, 32, 33, 33) = 6
            feed(4, 32, 32, 32, 32, 33) = 10
            feed(5, 32, 32, 32, 32, 32) = 15
            text "!" = -115
            """);
        THE.holds("6: they come behind THE TAPE's, one by one", """
            feed(2, 115, 101, 33, 33, 33) = 2
            feed(5, 101, 115, 32, 55, 59) = 7
            text "drifts 0;frosts 0;" = 1
            force(1)
            plane(0, 0)
            asks(0, 0, 0, 0) = 7
            """);
        THE.holds("6: five bytes (0 .. 255 each)", """
            feed(5, 0, 0, 0, 0, 0) = 5
            feed(5, 255, 255, 255, 255, 255) = 10
            """);
        THE.holds("Terms: THE TAPE, 160 bytes at most", """
            1..31: feed(5, 32, 32, 32, 32, 32)
            count(7) = 155
            feed(5, 32, 32, 32, 32, 32) = 160
            feed(1, 32, 32, 32, 32, 32) = FULL
            count(7) = 160
            """);
        THE.holds("6: they have all room, by as many as there is", """
            1..31: feed(5, 32, 32, 32, 32, 32)
            feed(4, 32, 32, 32, 32, 32) = 159
            feed(2, 32, 32, 32, 32, 32) = FULL
            feed(1, 32, 32, 32, 32, 32) = 160
            """);
    }

    private static void feedRefuses() {
        THE.holds("6: BAD: n", """
            feed(0, 32, 32, 32, 32, 32) = BAD
            feed(6, 32, 32, 32, 32, 32) = BAD
            feed(-1, 32, 32, 32, 32, 32) = BAD
            feed(MIN, 32, 32, 32, 32, 32) = BAD
            feed(MAX, 32, 32, 32, 32, 32) = BAD
            count(7) = 0
            """);
        THE.holds("6: BAD: any of the five, below 0", """
            feed(5, -1, 32, 32, 32, 32) = BAD
            feed(5, 32, -1, 32, 32, 32) = BAD
            feed(5, 32, 32, -1, 32, 32) = BAD
            feed(5, 32, 32, 32, -1, 32) = BAD
            feed(5, 32, 32, 32, 32, -1) = BAD
            feed(5, 32, 32, 32, 32, MIN) = BAD
            count(7) = 0
            """);
        THE.holds("6: BAD: any of the five, above 255", """
            feed(5, 256, 32, 32, 32, 32) = BAD
            feed(5, 32, 256, 32, 32, 32) = BAD
            feed(5, 32, 32, 256, 32, 32) = BAD
            feed(5, 32, 32, 32, 256, 32) = BAD
            feed(5, 32, 32, 32, 32, 256) = BAD
            feed(5, MAX, 32, 32, 32, 32) = BAD
            count(7) = 0
            """);
        THE.holds("6: BAD: any of the five, those behind the first n, too", """
            feed(1, 32, 256, 0, 0, 0) = BAD
            feed(1, 32, -1, 0, 0, 0) = BAD
            feed(2, 32, 32, 256, 0, 0) = BAD
            feed(3, 32, 32, 32, -1, 0) = BAD
            feed(4, 32, 32, 32, 32, 256) = BAD
            feed(1, 32, 0, 0, 0, -1) = BAD
            count(7) = 0
            """);
        THE.holds("6: BAD changes nothing on THE TAPE", """
            feed(5, 115, 101, 101, 115, 32) = 5
            feed(5, 256, 32, 32, 32, 32) = BAD
            feed(5, 32, 32, 32, 32, -1) = BAD
            feed(1, 32, 256, 32, 32, 32) = BAD
            feed(0, 32, 32, 32, 32, 32) = BAD
            feed(6, 32, 32, 32, 32, 32) = BAD
            count(7) = 5
            text "7;drifts 0;frosts 0;" = 1
            """);
        THE.holds("6: FULL: they have not all room (none comes)", """
            1..31: feed(5, 32, 32, 32, 32, 32)
            feed(1, 32, 32, 32, 32, 32) = 156
            feed(5, 33, 33, 33, 33, 33) = FULL
            count(7) = 156
            feed(3, 32, 32, 32, 32, 32) = 159
            feed(2, 33, 33, 33, 33, 33) = FULL
            count(7) = 159
            feed(1, 32, 32, 32, 32, 32) = 160
            text "" = -260
            """);
        THE.holds("6: of BAD, FULL the first one told", """
            1..32: feed(5, 32, 32, 32, 32, 32)
            feed(0, 32, 32, 32, 32, 32) = BAD
            feed(6, 32, 32, 32, 32, 32) = BAD
            feed(1, 256, 32, 32, 32, 32) = BAD
            feed(1, 32, 32, 32, 32, -1) = BAD
            feed(1, 32, 32, 32, 32, 32) = FULL
            """);
    }

    // ---- promise 7

    private static void text() {
        THE.holds("7: an empty TAPE: -100 less place 0", """
            text() = -100
            text() = -100
            count(5) = 1
            """);
        THE.holds("7: THE TAPE is empty then", """
            text "sees 1;drifts 1;frosts 1;" = 1
            count(7) = 0
            text() = -100
            """);
        THE.holds("7: it is empty by a FAULT, too", """
            text "sees 1;drifts 1;frosts 1;;" = -125
            count(7) = 0
            text "sees 1;drifts 1;frosts 1;" = 1
            """);
        THE.holds("7: by a FAULT no TEXT comes", """
            text "sees 7;drifts 1;frosts 1" = -124
            count(5) = 1
            force(1) = BAD
            count(6) = 0
            """);
        THE.holds("7: the last place, of 160 bytes", "text \"" + " ".repeat(159) + "!\" = -259");
        THE.holds("7: the text's size, of 160 bytes", "text \"" + " ".repeat(160) + "\" = -260");
        String most = "sees " + "0+".repeat(67) + "07;drifts 0;frosts 0;";
        THE.holds("7: a TEXT of 160 bytes", "plane(0, 0)\nlaw \"" + most + "\"\nasks(0, 0, 0, 0) = 7");
        THE.holds("7: FULL, ahead of the FAULT; then THE TAPE stays", """
            1..5: feed(1, 33, 0, 0, 0, 0)
            text "" = -100
            text "sees 1;drifts 1;frosts 1;" = 1
            text "sees 1;drifts 1;frosts 1;" = 2
            text "sees 1;drifts 1;frosts 1;" = 3
            text "sees 1;drifts 1;frosts 1;" = 4
            text "!" = -100
            text "sees 1;drifts 1;frosts 1;" = 5
            text "" = FULL
            text "!" = FULL
            count(7) = 1
            text "sees 1;drifts 1;frosts 1;" = FULL
            count(7) = 26
            count(5) = 6
            1..26: feed(5, 33, 33, 33, 33, 33)
            count(7) = 156
            feed(5, 33, 33, 33, 33, 33) = FULL
            text() = FULL
            """);
    }

    // ---- TOKENS

    private static void words() {
        noE("WORDS, as many letters as stand there: no NAME within a longer one", "^hills", "^ahill", "^hillhill", "^hillwind",
            "^clicksx", "^xrow", "^rowrowrowrow");
        noE("WORDS, as many letters as stand there: no KEY within a longer one", "^notnot 1", "^nothill", "1 ^orhill", "1 ^andhill",
            "1 ^ornot 1");
        right("WORDS: they end where no letter stands", "sees1;drifts2;frosts3;", "sees(1);drifts(1);frosts(1);",
            "sees-1;drifts-1;frosts-1;", "sees not(1)or(1)and(1);drifts 1or 1and 1;frosts hill<wind;");
        faults("WORDS: a .. z, no great ones", "^Sees 1;", "sees ^Hill;", "sees ^hiLL;", "sees 1 ^OR 1;");
        noE("a blank ends a WORD", "^hi ll", "^no t 1", "1 ^o r 1", "hill ^hill");
        noE("WORDS: a and z are letters, too", "^hillz", "^hilla", "^zhill", "^ahill", "1 ^orz 1", "1 ^aor 1");
    }

    /** Each KEY and each NAME, a letter of it otherwise, or one less, or one more, is neither. */
    private static void wordsThatAreNone() {
        String[] words = {"sees", "drifts", "frosts", "or", "and", "not", "hill", "wind", "more", "hour", "clicks", "row"};
        String[] ahead = {"", "sees 1;", "sees 1;drifts 1;", "sees 1 ", "sees 1 ", "sees ", "sees ", "sees ", "sees ", "sees ", "sees ",
            "sees "};
        String[] behind = {" 1;drifts 1;frosts 1;", " 1;frosts 1;", " 1;", " 1;drifts 1;frosts 1;", " 1;drifts 1;frosts 1;",
            " 1;drifts 1;frosts 1;"};
        for (int w = 0; w < words.length; w++) {
            String rest = w < behind.length ? behind[w] : ";drifts 1;frosts 1;";
            java.util.List<String> texts = new java.util.ArrayList<>();
            for (int i = 0; i <= words[w].length(); i++) {
                String start = ahead[w] + "^" + words[w].substring(0, i);
                texts.add(start + "x" + words[w].substring(i) + rest);
                if (i < words[w].length()) {
                    texts.add(start + (char) (words[w].charAt(i) + 1) + words[w].substring(i + 1) + rest);
                    texts.add(start + words[w].substring(i + 1) + rest);
                }
            }
            right("TEXT: " + words[w] + " may stand there", ahead[w] + words[w] + rest);
            faults("FAULT: of a WORD that is not " + words[w], texts.toArray(new String[0]));
        }
    }

    private static void numbers() {
        isE("NUMBERS: four digits and fewer", "0", "9", "00", "99", "000", "999", "0000", "0001", "9999");
        says("NUMBERS: what four digits are", "9999-9998: 1", "1000-0999: 1", "0009: 9", "0012-8: 4", "1000-991: 9", "0000: 0");
        noE("NUMBERS: more than 4 are too long", "^00000", "^00001", "^10000", "^99999", "1+^12345", "-^12345", "(^12345)",
            "not ^12345", "1<^12345", "1*^00000");
        noE("NUMBERS: as many digits as stand there", "^000000000000000000000000000009", "^4294967296", "^2147483648",
            "^99999999999999999999999999999999");
        noE("a blank ends a NUMBER", "1 ^2", "9999 ^9");
        isE("a WORD behind a NUMBER begins anew", "1or 1", "1and 1");
        noE("a NAME behind a NUMBER can't stand there", "2^hill", "9999^row");
    }

    private static void signsAndBlanks() {
        StringBuilder run = new StringBuilder();
        for (int b = 0; b <= 255; b++) {
            // Behind a NUMBER a digit goes on, a blank is nothing, some signs may stand; then the text ends too early.
            boolean mayStand = b >= '0' && b <= '9' || b == 32 || b == 10 || b < 128 && ";+-*<=".indexOf(b) >= 0;
            run.append("new\nfeed(5, 115, 101, 101, 115, 32) = 5\nfeed(2, 51, ").append(b).append(", 0, 0, 0) = 7\ntext() = ");
            run.append(mayStand ? -107 : -106).append('\n');
        }
        THE.holds("FAULT: a byte that begins none, each of 0 .. 255 behind a NUMBER", run.toString());
        run.setLength(0);
        for (int b = 0; b <= 255; b++) {
            // Where an E begins, a digit, a blank, a ( and a - may stand.
            boolean mayStand = b >= '0' && b <= '9' || b == 32 || b == 10 || b == '(' || b == '-';
            run.append("new\nfeed(5, 115, 101, 101, 115, 32) = 5\nfeed(1, ").append(b).append(", 0, 0, 0, 0) = 6\ntext() = ");
            run.append(mayStand ? -106 : -105).append('\n');
        }
        THE.holds("FAULT: a byte that begins none, each of 0 .. 255 where an E begins", run.toString());
        run.setLength(0);
        for (int b = 0; b <= 255; b++) {
            run.append("new\nfeed(1, ").append(b).append(", 0, 0, 0, 0) = 1\ntext \"sees 1;drifts 1;frosts 1;\" = ");
            run.append(b == 32 || b == 10 ? 1 : -100).append('\n');
        }
        THE.holds("blanks (32, 10) and no other byte of 0 .. 255", run.toString());
        right("blanks may stand between", "sees 1 ; drifts 1 ; frosts 1 ;", "sees\n1\n;\ndrifts\n1\n;\nfrosts\n1\n;",
            "sees  \n  1 \n\n + \n ( 1 ) \n; drifts 1 ; frosts not\n1\n<\n2 ;");
        right("SIGNS ( ) ; + - * < =", "sees (1)+(1)-(1)*(1)<(1);drifts 1=1;frosts -1;");
    }

    // ---- TEXT

    private static void textsOfThreeParts() {
        right("TEXT: sees E ; drifts E ; frosts E ;", "sees 1;drifts 2;frosts 3;");
        faults("TEXT: it begins by sees", "^", "^;", "^1;drifts 2;frosts 3;", "^drifts 2;frosts 3;", "^hill;", "^frosts 1;", "^or",
            "^not 1;", "^(sees 1);");
        faults("TEXT: then drifts", "sees 1;^", "sees 1;^frosts 3;", "sees 1;^sees 1;", "sees 1;^2;frosts 3;", "sees 1;^;",
            "sees 1;^hill 2;");
        faults("TEXT: then frosts", "sees 1;drifts 2;^", "sees 1;drifts 2;^drifts 2;", "sees 1;drifts 2;^sees 1;",
            "sees 1;drifts 2;^;", "sees 1;drifts 2;^3;");
        faults("TEXT: a ; behind each E", "sees 1^", "sees 1 ^drifts 2;", "sees 1;drifts 2^", "sees 1;drifts 2 ^frosts 3;",
            "sees 1;drifts 2;frosts 3^", "sees 1;drifts 2;frosts 3 ^sees");
        faults("TEXT: an E ahead of each ;", "sees ^;", "sees 1;drifts ^;", "sees 1;drifts 2;frosts ^;");
        faults("TEXT: nothing behind its last ;", "sees 1;drifts 2;frosts 3;^;", "sees 1;drifts 2;frosts 3;^sees 1;drifts 2;frosts 3;",
            "sees 1;drifts 2;frosts 3; ^1", "sees 1;drifts 2;frosts 3;^!", "sees 1;drifts 2;frosts 3;\n^x");
    }

    private static void whatAnEIs() {
        isE("E: AND { or AND }", "1 or 2", "1 or 2 or 3 or 4", "1 and 2 or 3 and 4", "not 1 or not 2");
        noE("E: no or without an AND", "^or 1", "1 or ^", "1 or ^or 2", "1 or ^and 2");
        isE("AND: NOT { and NOT }", "1 and 2", "1 and 2 and 3", "1 and not 2");
        noE("AND: no and without a NOT", "^and 1", "1 and ^", "1 and ^and 2", "1 and ^or 2");
        isE("NOT: not NOT, or SUM, perhaps < or = and a SUM", "not 1", "not not 1", "1<2", "1=2", "not 1<2", "1+2<3+4");
        noE("NOT: one < or = alone", "1<2^<3", "1<2^=3", "1=2^<3", "1=2^=3", "1=^=2", "1<^=2");
        noE("NOT: no < or = without SUMS", "^<1", "^=1", "1<^", "1=^");
        noE("NOT: a not stands ahead of no SUM within it", "1<^not 2", "1+^not 2", "1*^not 2", "-^not 2", "1 ^not 2", "not ^");
        isE("SUM: TERM { + or - TERM }", "1+2", "1-2", "1+2-3+4", "1*2+3*4");
        noE("SUM: no + without TERMS, no - without one", "^+1", "1+^", "1-^", "1+^+2", "1-^+2");
        isE("TERM: ONE { * ONE }", "1*2", "1*2*3", "1*-2", "(1)*(2)");
        noE("TERM: no * without ONES", "^*1", "1*^", "1*^*2", "-^*1");
        isE("ONE: a NUMBER, a NAME, - ONE, ( E )", "1", "hill", "-1", "--1", "-hill", "(1)", "(1 or 2)", "(not 1)", "(1<2)", "-(1 and 2)");
        noE("ONE: a ( and its )", "(^", "(^)", "(1^", "1^)", "(1)^)", "((1)^", "^)", "(1 ^2)");
        noE("ONE: one behind another can't stand there", "1 ^1", "1 ^hill", "hill ^1", "hill ^hill", "(1)^1", "1^(1)", "(1)^(1)");
        noE("ONE: no KEY", "^sees", "^drifts", "^frosts", "1+^or", "-^and");
        isE("NAMES: hill wind more hour clicks row", "hill", "wind", "more", "hour", "clicks", "row");
    }

    private static void faultsByTheirPlace() {
        faults("FAULT: the text's size, if it ends too early", "^", "sees^", "sees 1^", "sees 1;drifts^", "sees 1+^", "sees (1^",
            "sees not^", "sees 1;drifts 0;frosts 0^");
        faults("FAULT: the text's size, blanks behind it counted", "   ^", "\n^", "sees  ^", "sees 1 \n ^", "sees 1;  ^",
            "sees 1;drifts 0;frosts 0  ^");
        faults("FAULT: the place of the first byte of the TOKEN", "sees   ^drifts", "sees 1   ^wind;", "sees 1\n\n^12;");
        faults("FAULT: the first TOKEN of several", "sees ^;drifts;frosts;", "sees ^! !;", "sees ^12345 x;", "^x 12345;",
            "sees 1 ^1;drifts 12345;");
        faults("FAULT: of a WORD that is neither KEY nor NAME", "^see 1;", "^seess 1;", "sees ^hil;", "sees ^x;", "sees ^click;",
            "sees 1 ^x;", "sees 1;^drift 1;", "sees 1;drifts 1;^frost 1;", "^a", "^z");
        noE("FAULT: of what begins no ONE, where another ONE could begin", "-^x 1", "(^x 1)", "not ^x 1", "-^! 1", "(^! 1)", "not ^! 1",
            "-^12345 1", "(^12345 1)", "not ^12345 1", "1+^x 1", "1*^! 1", "1<^12345 1", "1 or ^x 1", "1 and ^! 1");
        faults("FAULT: of a WORD, as long as the TAPE", "^" + "z".repeat(160));
        faults("FAULT: of a NUMBER that is too long, as long as the TAPE", "sees ^" + "9".repeat(155));
    }

    private static void fiveAreOpen() {
        isE("FAULT: a ( while 4 are open is none", "(((((1)))))", "not not not not (1)", "----(1)", "not -(not (1))");
        noE("FAULT: a ( while 5 are open", "(((((^(1))))))", "not not not not not ^(1)", "-----^(1)", "not (not (not ^(1)))",
            "-(-(-^(1)))");
        isE("FAULT: a not while 4 are open is none", "not not not not not 1", "((((not 1))))", "not (not (not 1))");
        noE("FAULT: a not while 5 are open", "not not not not not ^not 1", "(((((^not 1)))))", "(not (not (^not 1)))",
            "-(-(not ^not 1))");
        isE("FAULT: a - while 4 are open is none", "-----1", "((((-1))))", "not not not not -1", "-(-(-1))");
        noE("FAULT: a - ahead of a ONE while 5 are open", "-----^-1", "(((((^-1)))))", "not not not not not ^-1", "-(-(-^-1))");
        isE("FAULT: a - between TERMS opens nothing", "(((((1-1)))))", "not not not not not 1-1-1", "(((((1-1-1-1-1-1)))))",
            "1-1-1-1-1-1-1");
        noE("FAULT: a - behind a - between TERMS does", "(((((1-^-1)))))", "not not not not not 1-^-1");
    }

    private static void tillTheyEnd() {
        isE("FAULT: a ( is open till its )", "(((((1)))))+(1)", "(((((1)))))*(((((1)))))", "((((1))+(((1)))))", "(1)+(1)+(1)+(1)+(1)+(1)",
            "(((((1)))))or -1", "(((((1))))) and not 1");
        noE("FAULT: and not shorter", "((((1))+(((^(1))))))", "((((1)+(1)+((^(1))))))");
        isE("FAULT: a not is open till what it belongs to ends", "not not not not not 1 and not 1", "not not not not not 1 or (1)",
            "not not not not not 1 and -1", "not 1 or not 1 or not 1 or not 1 or not 1 or not 1");
        noE("FAULT: it belongs to all of a NOT", "not not not not not 1<^-1", "not not not not not 1=^(1)", "not not not not not 1+^(1)",
            "not not not not not 1*^-1", "not not not not not 1*1+1<1+1*^(1)");
        isE("FAULT: a - is open till what it belongs to ends", "-----1--1", "-----1*-1", "-----1+(1)", "-----1<-1", "-1-(-1)-(-1)-(-1)",
            "-1*-1*-1*-1*-1*-1*-1");
        noE("FAULT: it belongs to all of a ONE", "-(-(-^(1)))", "--(--^(-1))", "-(---1+---^-1)");
    }

    // ---- what an E says

    private static void anEIsAnInt() {
        says("E: 32 bits, wrapping: +", MOST + "<0: 0", MOST + "+1<0: 1", MOST + "+1=-" + MOST + "-1: 1", MOST + "+" + MOST + "=-2: 1",
            MOST + "+1: -9", MOST + ": 9");
        says("E: 32 bits, wrapping: - between TERMS", "-" + MOST + "-1<0: 1", "-" + MOST + "-2=" + MOST + ": 1", "-" + MOST + "-2: 9",
            "-" + MOST + "-1: -9");
        says("E: 32 bits, wrapping: - ahead of a ONE", "-(" + MOST + "+1)=" + MOST + "+1: 1", "-(" + MOST + "+1): -9", "-(-" + MOST + "-1): -9");
        says("E: 32 bits, wrapping: *", MOST + "*2=-2: 1", MOST + "*" + MOST + "=1: 1", "(" + MOST + "+1)*2=0: 1", "256*256*256*128<0: 1",
            "256*256*256*128: -9", "9999*9999*21<0: 0", "9999*9999*22<0: 1");
        says("E: 32 bits, wrapping: to 0, which is not true", "256*256*256*256: 0", "not 256*256*256*256: 1", "256*256*256*256 or 0: 0",
            "1 and 256*256*256*256: 0");
        says("E: < of the least and the greatest int", MOST + "+1<" + MOST + ": 1", MOST + "<" + MOST + "+1: 0", "-" + MOST + "<" + MOST + ": 1",
            MOST + "<-1: 0");
    }

    private static void oneOrZero() {
        says("E: of or 1 or 0", "5 or 0: 1", "0 or 5: 1", "5 or 7: 1", "0 or 0: 0", "(5 or 0)+1: 2", "4 or 2 or 1: 1", "0 or 0 or 9: 1");
        says("E: of and 1 or 0", "5 and 7: 1", "5 and 0: 0", "0 and 5: 0", "0 and 0: 0", "(5 and 2)+1: 2", "4 and 2 and 1: 1", "4 and 2 and 0: 0");
        says("E: of not 1 or 0", "not 0: 1", "not 1: 0", "not 9: 0", "not not 9: 1", "not not 0: 0", "(not 0)+1: 2");
        says("E: of < 1 or 0", "1<2: 1", "2<2: 0", "3<2: 0", "-2<-1: 1", "-1<-2: 0", "(1<2)+1: 2");
        says("E: of = 1 or 0", "2=2: 1", "2=3: 0", "-2=2: 0", "(2=2)+1: 2");
        says("E: what is not 0 is true, below 0, too", "-1 or 0: 1", "0 or -9: 1", "-1 and -1: 1", "not -1: 0");
        says("E: and ahead of or, not ahead of and, sums ahead of not", "1 or 1 and 0: 1", "0 and 1 or 1: 1", "(1 or 1) and 0: 0",
            "not 1 or 1: 1", "not 0 and 0: 0", "not 2<1: 1", "not 0+5: 0", "1+1=2: 1");
        says("E: * ahead of + and -, from the first on", "1+2*3: 7", "2*3+1: 7", "9-2-3: 4", "9-2*3: 3", "-2*3: -6", "2*-3: -6", "3--2: 5",
            "-1+3: 2", "2-3+4: 3", "1-2*3-1: -6");
    }

    // ---- TEXTS and THE LAW

    private static void manyTexts() {
        THE.holds("Terms: TEXTS are numbered from 0 on, 6 at most", """
            text "sees 1;drifts 0;frosts 0;" = 1
            text "sees 2;drifts 0;frosts 0;" = 2
            text "sees 3;drifts 0;frosts 0;" = 3
            text "sees 4;drifts 0;frosts 0;" = 4
            text "sees 5;drifts 0;frosts 0;" = 5
            count(5) = 6
            text "sees 6;drifts 0;frosts 0;" = FULL
            count(5) = 6
            plane(0, 0)
            force(5) = 0
            asks(0, 0, 0, 0) = 5
            force(1) = 5
            asks(0, 0, 0, 0) = 1
            force(0) = 1
            asks(0, 0, 0, 0) = 3
            """);
        THE.holds("7: a new TEXT isn't THE LAW", """
            plane(0, 0)
            text "sees 1;drifts 0;frosts 0;" = 1
            count(6) = 0
            asks(0, 0, 0, 0) = 3
            """);
        THE.holds("Terms: a FAULT leaves the other TEXTS as they are", """
            plane(0, 0)
            law "sees 8;drifts 0;frosts 0;"
            text "sees 1;drifts 1;frosts 1" = -124
            asks(0, 0, 0, 0) = 8
            force(0) = 1
            asks(0, 0, 0, 0) = 3
            text "sees 2;drifts 0;frosts 0;" = 2
            force(2) = 0
            asks(0, 0, 0, 0) = 2
            """);
        THE.holds("Terms: a FAULT leaves nothing to the TEXT behind it", """
            plane(0, 0)
            text "sees 5+5;drifts 5+5;frosts not not 5+5*5" = -140
            text "sees 7;drifts 8;frosts 9;" = 1
            force(1) = 0
            asks(0, 0, 0, 0) = 7
            asks(1, 0, 0, 0) = 8
            asks(2, 0, 0, 0) = 9
            new
            plane(0, 0)
            text "sees 1;drifts 1;frosts not 1" = -128
            text "sees 7;drifts 8;frosts 9;" = 1
            force(1) = 0
            asks(2, 0, 0, 0) = 9
            """);
    }

    private static void theLaw() {
        THE.holds("Terms: TEXT 0: sees 3 - hill", """
            plane(0, 0)
            asks(0, 0, 0, 0) = 3
            land(0, 0, 2)
            asks(0, 0, 0, 0) = 1
            land(0, 0, 3)
            asks(0, 0, 0, 0) = 0
            land(0, 0, 9)
            asks(0, 0, 0, 0) = 0
            """);
        THE.holds("Terms: TEXT 0: drifts wind", """
            plane(0, 0)
            set(0, -5)
            asks(1, 0, 0, 0) = -5
            set(0, 5)
            asks(1, 0, 0, 0) = 5
            """);
        THE.holds("Terms: TEXT 0: frosts 0", """
            plane(0, 0)
            asks(2, 0, 0, 0) = 0
            asks(2, 0, 191, 200) = 0
            """);
        THE.holds("THE LAW: sees 0 .. 9, else the bound", """
            plane(0, 0)
            law "sees clicks-1;drifts 0;frosts 0;"
            asks(0, 0, 0, 0) = 0
            asks(0, 0, 0, 1) = 0
            asks(0, 0, 0, 2) = 1
            asks(0, 0, 0, 9) = 8
            asks(0, 0, 0, 10) = 9
            asks(0, 0, 0, 11) = 9
            asks(0, 0, 0, 200) = 9
            """);
        THE.holds("THE LAW: drifts -9 .. 9, else the bound", """
            plane(0, 0)
            law "sees 0;drifts clicks-10;frosts 0;"
            asks(1, 0, 0, 0) = -9
            asks(1, 0, 0, 1) = -9
            asks(1, 0, 0, 2) = -8
            asks(1, 0, 0, 18) = 8
            asks(1, 0, 0, 19) = 9
            asks(1, 0, 0, 20) = 9
            """);
        THE.holds("THE LAW: frosts 0 .. 100, else the bound", """
            plane(0, 0)
            law "sees 0;drifts 0;frosts clicks-1;"
            asks(2, 0, 0, 0) = 0
            asks(2, 0, 0, 1) = 0
            asks(2, 0, 0, 2) = 1
            asks(2, 0, 0, 100) = 99
            asks(2, 0, 0, 101) = 100
            asks(2, 0, 0, 102) = 100
            """);
    }

    private static void names() {
        THE.holds("NAMES: hill: its HILL, of that MILE", """
            plane(0, 0)
            law "sees 0;drifts 0;frosts hill;"
            land(191, 0, 9)
            asks(2, 0, 191, 0) = 9
            asks(2, 0, 190, 0) = 0
            asks(2, 0, 0, 0) = 0
            """);
        THE.holds("NAMES: wind: WIND", """
            plane(0, 0)
            law "sees 0;drifts wind;frosts 0;"
            set(0, -5)
            asks(1, 0, 0, 0) = -5
            set(0, 5)
            asks(1, 0, 0, 0) = 5
            """);
        THE.holds("NAMES: more: MORE, of that PLANE", """
            plane(0, 0)
            plane(5, 9)
            law "sees more;drifts more;frosts more;"
            asks(2, 0, 0, 0) = 0
            asks(2, 1, 0, 0) = 9
            """);
        THE.holds("NAMES: hour: HOUR", """
            plane(0, 0)
            law "sees 0;drifts 0;frosts hour;"
            asks(2, 0, 0, 0) = 10
            set(1, 0)
            asks(2, 0, 0, 0) = 0
            set(1, 23)
            asks(2, 0, 0, 0) = 23
            """);
        THE.holds("NAMES: clicks: CLICKS so far, as told (0 .. 200)", """
            plane(0, 0)
            law "sees clicks-195;drifts clicks-195;frosts clicks-100;"
            asks(0, 0, 0, 200) = 5
            asks(1, 0, 0, 200) = 5
            asks(2, 0, 0, 200) = 100
            asks(2, 0, 0, 199) = 99
            asks(1, 0, 0, 0) = -9
            """);
        THE.holds("NAMES: row: y of the MILE (0 .. 15)", """
            plane(0, 0)
            law "sees 0;drifts 0;frosts row;"
            asks(2, 0, 0, 0) = 0
            asks(2, 0, 11, 0) = 0
            asks(2, 0, 12, 0) = 1
            asks(2, 0, 179, 0) = 14
            asks(2, 0, 180, 0) = 15
            asks(2, 0, 191, 0) = 15
            """);
    }

    // ---- promises 8 and 9

    private static void force() {
        THE.holds("8: a TEXT is THE LAW: which was", """
            text "sees 1;drifts 0;frosts 0;" = 1
            force(1) = 0
            count(6) = 1
            force(1) = 1
            force(0) = 1
            count(6) = 0
            """);
        THE.holds("8: BAD", """
            force(1) = BAD
            force(-1) = BAD
            force(MIN) = BAD
            force(MAX) = BAD
            text "sees 1;drifts 0;frosts 0;" = 1
            force(2) = BAD
            text "sees 1;drifts 0;frosts 0" = -124
            force(2) = BAD
            count(6) = 0
            """);
        THE.holds("8: BAD, with six TEXTS", """
            text "sees 1;drifts 0;frosts 0;" = 1
            text "sees 1;drifts 0;frosts 0;" = 2
            text "sees 1;drifts 0;frosts 0;" = 3
            text "sees 1;drifts 0;frosts 0;" = 4
            text "sees 1;drifts 0;frosts 0;" = 5
            force(5) = 0
            force(6) = BAD
            count(6) = 5
            """);
    }

    private static void asks() {
        THE.holds("9: the last of each: part 2, PLANE 3, MILE 191, 200 clicks", """
            0..3: plane(#, #)
            asks(2, 3, 191, 200) = 0
            law "sees more;drifts more;frosts row*10+more;"
            asks(2, 3, 191, 200) = 100
            asks(2, 3, 107, 200) = 83
            """);
        THE.holds("9: of any KIND, as the text says", """
            plane(4, 9)
            law "sees 2;drifts 8;frosts 0;"
            asks(0, 0, 0, 0) = 2
            plane(1, 9)
            asks(1, 1, 0, 0) = 8
            plane(5, 9)
            asks(1, 2, 0, 0) = 8
            """);
        THE.holds("9: -1000: no such part", """
            plane(0, 0)
            asks(-1, 0, 0, 0) = -1000
            asks(3, 0, 0, 0) = -1000
            asks(MIN, 0, 0, 0) = -1000
            asks(MAX, 0, 0, 0) = -1000
            """);
        THE.holds("9: -1000: no such PLANE", """
            asks(0, 0, 0, 0) = -1000
            asks(0, -1, 0, 0) = -1000
            plane(0, 0)
            asks(0, 0, 0, 0) = 3
            asks(0, 1, 0, 0) = -1000
            asks(0, -1, 0, 0) = -1000
            1..3: plane(0, 0)
            asks(0, 4, 0, 0) = -1000
            asks(0, MIN, 0, 0) = -1000
            asks(0, MAX, 0, 0) = -1000
            """);
        THE.holds("9: -1000: no such MILE", """
            plane(0, 0)
            asks(0, 0, -1, 0) = -1000
            asks(0, 0, 192, 0) = -1000
            asks(0, 0, MIN, 0) = -1000
            asks(0, 0, MAX, 0) = -1000
            """);
        THE.holds("9: -1000: no such clicks", """
            plane(0, 0)
            asks(0, 0, 0, -1) = -1000
            asks(0, 0, 0, 201) = -1000
            asks(0, 0, 0, MIN) = -1000
            asks(0, 0, 0, MAX) = -1000
            """);
        THE.holds("9: a PLANE that doesn't fly may be asked about", """
            plane(0, 0)
            set(2, -1)
            asks(0, 0, 0, 0) = 3
            """);
    }
}
