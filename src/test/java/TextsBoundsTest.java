/** Promises 14 to 17: what the document says of their bounds, of the empty and the full, of FAULTS and of refused calls. */
public final class TextsBoundsTest {
    private static final Due D = new Due("TextsBoundsTest");
    private static final String TEXT = "worn 1;broken 2;check 3;";

    public static void main(String[] args) {
        fedByOneToEight();
        lowestBytesFirst();
        tapeFull();
        emptyTape();
        textsFull();
        fullAheadOfAll();
        faultsEmptyTheTape();
        everyByteAsToken();
        everyByteBehindWord();
        everyByteBehindNumber();
        blanks();
        tokensAreLong();
        numbersOfFourDigits();
        wordsThatAreNone();
        nearWords();
        endsTooEarly();
        tooLong();
        partsInTheirOrder();
        oneComparison();
        firstFaultCounts();
        fiveOpen();
        openTillTheyEnd();
        fiveOpenOfEachSort();
        textOf160Bytes();
        forced();
        saysRefused();
        namesAtFirst();
        wrapping();
        truths();
        textZeroWorn();
        textZeroBroken();
        textZeroCheck();
        D.end();
    }

    /** Promise 14: BAD: n is not 1 .. 8. */
    private static void fedByOneToEight() {
        D.ends("feed: n", ToolCrib::new, (x, n) -> x.feed(n, 7), Due.at(1, 1), Due.at(8, 8), ToolCrib.BAD);
        D.ends("feed: n", Cribs::busy, (x, n) -> x.feed(n, 7), Due.at(1, 8), Due.at(8, 15), ToolCrib.BAD);
        D.outside("feed: n, full", Cribs::full, (x, n) -> x.feed(n, 7), 1, 8, ToolCrib.BAD);
    }

    /** Promise 14: the n lowest bytes, the lowest first; those of a number below 0, and bytes of 0, come, too. */
    private static void lowestBytesFirst() {
        ToolCrib x = Cribs.cutting(0, 1, 9, 1);
        D.is("feed 4 of 8 bytes", x.feed(4, 0x7fffff7f_6e726f77L), 4);
        D.is("feed 1, of a number below 0", x.feed(1, ~0xffL | ' '), 5);
        D.is("feed 3", x.feed(3, '4' | '2' << 8 | ';' << 16 | '9' << 24), 8);
        Cribs.feed(x, "broken 1;check 1;");
        D.is("text", x.text(), 2);
        x.force(2);
        D.is("the lowest came first", x.says(0, 0), 42);
        ToolCrib y = new ToolCrib();
        Cribs.feed(y, "worn ");
        D.is("feed 8, the highest byte is 255", y.feed(8, 0xff20202020202020L), 13);
        D.is("it came last", y.text(), -112);
        D.is("feed 8 of 0", y.feed(8, 0), 8);
        D.is("a byte of 0 begins no TOKEN", y.text(), -100);
    }

    /** Promise 14: 160 bytes at most: FULL, where not all n have room; BAD ahead of FULL. */
    private static void tapeFull() {
        for (int n = 1; n <= 8; n++) {
            int bytes = n;
            D.is("feed " + n + " to 160", tapeOf(160 - n).feed(n, 0), 160);
            D.refused("feed " + n + " to 161", () -> tapeOf(161 - bytes), x -> x.feed(bytes, 0), ToolCrib.FULL);
            D.refused("feed " + n + ", full", Cribs::full, x -> x.feed(bytes, 0), ToolCrib.FULL);
        }
        ToolCrib x = tapeOf(153);
        D.is("feed 8", x.feed(8, 0), ToolCrib.FULL);
        D.is("feed 7", x.feed(7, 0), 160);
        D.is("count(5)", x.count(5), 160);
    }

    /** A crib with some bytes on THE TAPE. */
    private static ToolCrib tapeOf(int bytes) {
        ToolCrib x = new ToolCrib();
        Cribs.feed(x, ";".repeat(bytes));
        return x;
    }

    private static void fault(String text, int place) {
        ToolCrib x = new ToolCrib();
        String told = "text: " + text.replace("\n", "\\n");
        D.is(told, Cribs.text(x, text), -100 - place);
        D.is(told + ", no TEXT more", x.count(4), 1);
        D.is(told + ", THE TAPE", x.count(5), 0);
    }

    private static void good(String text) {
        ToolCrib x = new ToolCrib();
        String told = "text: " + text.replace("\n", "\\n");
        D.is(told, Cribs.text(x, text), 1);
        D.is(told + ", a TEXT more", x.count(4), 2);
        D.is(told + ", THE TAPE", x.count(5), 0);
    }

    /** Promise 15: an empty TAPE ends too early; so do blanks alone, at their size. */
    private static void emptyTape() {
        fault("", 0);
        fault(" ", 1);
        fault("\n \n", 3);
        fault(" ".repeat(160), 160);
    }

    /** Promise 15: TEXTS: 6, TEXT 0 with them, numbered as they come; a FAULT takes no number. */
    private static void textsFull() {
        ToolCrib x = new ToolCrib();
        D.is("TEXTS at first", x.count(4), 1);
        for (int i = 1; i <= 5; i++) {
            D.is("a FAULT", Cribs.text(x, "check"), -100);
            D.is("text " + i, Cribs.text(x, TEXT), i);
            D.is("count(4)", x.count(4), i + 1);
        }
        D.is("a sixth", Cribs.text(x, TEXT), ToolCrib.FULL);
        D.is("count(4)", x.count(4), 6);
        D.is("THE TAPE stays", x.count(5), TEXT.length());
    }

    /** Promise 15: FULL (ahead of all): of a FAULT, of an empty TAPE, of a TEXT; THE TAPE stays and can be fed. */
    private static void fullAheadOfAll() {
        D.refused("text, a FAULT", Cribs::full, ToolCrib::text, ToolCrib.FULL);
        D.refused("text, an empty TAPE", TextsBoundsTest::fullOfTexts, ToolCrib::text, ToolCrib.FULL);
        D.refused("text, a good one", TextsBoundsTest::fullWithGoodTape, ToolCrib::text, ToolCrib.FULL);
        D.is("feed behind it", fullWithGoodTape().feed(1, 'x'), TEXT.length() + 1);
    }

    private static ToolCrib fullOfTexts() {
        ToolCrib x = Cribs.cutting(0, 1, 9, 1);
        for (int i = 2; i < 6; i++) {
            Cribs.text(x, TEXT);
        }
        return x;
    }

    private static ToolCrib fullWithGoodTape() {
        ToolCrib x = fullOfTexts();
        Cribs.feed(x, TEXT);
        return x;
    }

    /** Promise 15: THE TAPE is empty then, by a FAULT, too: what is fed next begins a TEXT; those there are stay as they are. */
    private static void faultsEmptyTheTape() {
        ToolCrib x = Cribs.cutting(0, 1, 9, 1);
        for (int i = 0; i < 20; i++) {
            D.is("a long FAULT", Cribs.text(x, "worn 1+2+3+4+5+6+7+8;broken 1+2+3+4+5+6+7+8;"), -144);
            D.is("count(5)", x.count(5), 0);
        }
        D.is("says as before", x.says(0, 2), 1);
        D.is("a good one behind FAULTS", Cribs.text(x, "worn 1+2;broken 3+4;check 5+6;"), 2);
        x.force(2);
        for (int part = 0; part < 3; part++) {
            D.is("says", x.says(0, part), 3 + 4 * part);
        }
        Cribs.text(x, "worn 9;broken 9;check 9; 9");
        D.is("says as before the FAULT", x.says(0, 0), 3);
        ToolCrib y = Cribs.fullTape();
        D.is("a full TAPE", y.text(), -100);
        D.is("feed behind it", y.feed(8, 0), 8);
    }

    /** Promise 15: FAULT, a byte that begins no TOKEN: each byte there is, where a ONE has its place. */
    private static void everyByteAsToken() {
        for (int b = 0; b < 256; b++) {
            boolean digit = b >= '0' && b <= '9';
            boolean blank = b == 32 || b == 10;
            String text = "worn " + (char) b + ";broken 2;check 3;";
            if (digit) {
                good(text);
            } else if (blank || b == '-' || b == '(') {
                fault(text, 6);
            } else {
                fault(text, 5);
            }
        }
    }

    /** Promise 15: WORDS are of a .. z alone: each byte there is, between two WORDS. */
    private static void everyByteBehindWord() {
        everyByteBetween("cuts", "life", 'a', 'z');
    }

    /** Promise 15: NUMBERS are of digits alone: each byte there is, between two NUMBERS of 4 digits. */
    private static void everyByteBehindNumber() {
        everyByteBetween("9999", "0000", '0', '9');
    }

    /** A byte between two ONES of 4 bytes joins them, makes them one that is none, or is a FAULT, or what follows it is. */
    private static void everyByteBetween(String one, String other, char least, char most) {
        for (int b = 0; b < 256; b++) {
            String text = "worn " + one + (char) b + other + ";broken 2;check 3;";
            boolean joins = "+-*<=".indexOf(b) >= 0;
            boolean passes = b == 32 || b == 10 || b == ';';
            if (joins) {
                good(text);
            } else if (b >= least && b <= most) {
                fault(text, 5);
            } else {
                fault(text, passes ? 10 : 9);
            }
        }
    }

    /** Promise 15: blanks (32, 10) may stand between TOKENS, as many as will, also none; others (9, 13, 0, 160) may not. */
    private static void blanks() {
        good("worn1;broken2;check3;");
        good("\n  worn\n\n\n1 \n ;\n\nbroken 2\n; check   3 ; \n");
        good("worn 1and 2or 3;broken not(1);check(cuts)*life;");
        for (char c : new char[] {0, 9, 11, 12, 13, 31, 127, 133, 160, 255}) {
            fault(c + TEXT, 0);
            fault("worn" + c + "1;broken 2;check 3;", 4);
            fault("worn 1;" + c + "broken 2;check 3;", 7);
            fault(TEXT + c, TEXT.length());
        }
        fault("wo rn 1;", 0);
        fault("worn 1 2;", 7);
        fault("worn cu ts;", 5);
    }

    /** Promise 15: TOKENS, each as long as can be: letters that follow one another are one WORD. */
    private static void tokensAreLong() {
        fault("worncuts;", 0);
        fault("worn notcuts;", 5);
        fault("worn cutslife;", 5);
        fault("worn cuts orlife;", 10);
        fault("worn cuts andnot life;", 10);
        fault("worn 1;brokencheck 2;", 7);
        fault("worn 12 34;", 8);
        good("worn 1or 2and 3;broken 2;check 3;");
    }

    /** Promise 15: NUMBERS of 4 digits at most, zeros ahead with them; a longer one is a FAULT at its first byte. */
    private static void numbersOfFourDigits() {
        for (String number : new String[] {"0", "00", "0000", "9999", "0001", "10", "999"}) {
            good("worn " + number + ";broken " + number + ";check " + number + ";");
        }
        for (String number : new String[] {"10000", "00000", "00001", "99999", "2147483648", "99999999999999999999"}) {
            fault("worn " + number + ";broken 2;check 3;", 5);
            fault("worn 1;broken 2;check 3+" + number + ";", 24);
        }
        fault("worn " + "1".repeat(155), 5);
    }

    /** Promise 15: a WORD that is neither KEY nor NAME; a KEY that can't stand there; near ones are none. */
    private static void wordsThatAreNone() {
        String[] words = {"a", "z", "cut", "cutss", "acuts", "spee", "speeds", "stuf", "lif", "lives", "readin", "nomina",
            "nominals", "o", "orr", "an", "ands", "no", "nott", "wor", "worns", "x".repeat(100)};
        for (String word : words) {
            fault("worn " + word + ";broken 2;check 3;", 5);
            fault("worn 1 " + word + " 2;broken 2;check 3;", 7);
            fault(word + " 1;", 0);
        }
        for (String key : new String[] {"worn", "broken", "check", "or", "and"}) {
            fault("worn " + key + ";broken 2;check 3;", 5);
        }
        for (String key : new String[] {"worn", "broken", "check", "not"}) {
            fault("worn 1 " + key + " 2;broken 2;check 3;", 7);
        }
        for (String name : new String[] {"cuts", "speed", "stuff", "life", "reading", "nominal"}) {
            good("worn " + name + ";broken 2*" + name + ";check(" + name + ");");
            fault("worn 1 " + name + ";broken 2;check 3;", 7);
            fault(name + " 1;", 0);
        }
        fault("Worn 1;", 0);
        fault("worn Cuts;", 5);
        fault("worn cutS;", 5);
        fault("worn cutsS;", 9);
    }

    /** Promise 15: the text's size, if it ends too early: TEXT 0 cut off at each of its bytes. */
    private static void endsTooEarly() {
        String text = "worn life < cuts ; broken 500 < cuts * speed ; check reading = nominal ;";
        for (int size = 0; size < text.length(); size++) {
            int word = size;
            while (word > 0 && Character.isLetter(text.charAt(word - 1)) && Character.isLetter(text.charAt(size))) {
                word--;
            }
            fault(text.substring(0, size), word);
        }
        good(text);
        fault("worn not", 8);
        fault("worn (1", 7);
        fault("worn 1+", 7);
        fault("worn -", 6);
        fault("worn 1;broken 2;check 3 \n ", 26);
    }

    /** Promise 15: a TOKEN behind the last ; can't stand there. */
    private static void tooLong() {
        fault(TEXT + ";", 24);
        fault(TEXT + " 1", 25);
        fault(TEXT + "worn 1;", 24);
        fault(TEXT + "\n\nx", 26);
        good(TEXT + "\n\n  ");
    }

    /** Promise 15: worn, broken, check, each once and in this order, each with an E. */
    private static void partsInTheirOrder() {
        fault("broken 1;worn 2;check 3;", 0);
        fault("check 3;", 0);
        fault("worn 1;check 3;broken 2;", 7);
        fault("worn 1;worn 2;check 3;", 7);
        fault("worn 1;broken 2;worn 3;", 16);
        fault("worn 1;broken 2;broken 3;", 16);
        fault("worn;broken 2;check 3;", 4);
        fault("worn 1;broken;check 3;", 13);
        fault("worn 1;broken 2;check;", 21);
        fault("worn 1 broken 2;check 3;", 7);
        fault("worn();broken 2;check 3;", 5);
    }

    /** Promise 15: a NOT is a SUM, perhaps with one < or = and a SUM: no second one, no not in a SUM, but in ( ). */
    private static void oneComparison() {
        good("worn 1<2;broken 1=2;check(1<2)=(2<3);");
        fault("worn 1<2<3;broken 2;check 3;", 8);
        fault("worn 1=2=3;broken 2;check 3;", 8);
        fault("worn 1<2=3;broken 2;check 3;", 8);
        fault("worn 1=2<3;broken 2;check 3;", 8);
        fault("worn not 1<2<3;broken 2;check 3;", 12);
        fault("worn not 1=0=1;broken 2;check 3;", 12);
        good("worn 1<2 and 3<4 or 5=6;broken not 1<2 and not 3=4;check(1<2)+(3<4)=2;");
        fault("worn (1<2<3);broken 2;check 3;", 9);
        fault("worn 1<=2;broken 2;check 3;", 7);
        fault("worn 1<not 2;broken 2;check 3;", 7);
        fault("worn 1+not 2;broken 2;check 3;", 7);
        fault("worn 1*not 2;broken 2;check 3;", 7);
        fault("worn -not 2;broken 2;check 3;", 6);
        good("worn 1<(not 2);broken 1+(not 2);check-(not 2);");
        fault("worn +1;broken 2;check 3;", 5);
        fault("worn *1;broken 2;check 3;", 5);
        fault("worn 1++2;broken 2;check 3;", 7);
        good("worn 1+-2;broken 1--2;check 1*-2;");
        fault("worn 1-*2;broken 2;check 3;", 7);
        fault("worn 1(2);broken 2;check 3;", 6);
        fault("worn (1)2;broken 2;check 3;", 8);
        fault("worn (1)(2);broken 2;check 3;", 8);
    }

    /** Promise 15: the first TOKEN that can't stand there, whatever sort of FAULT follows it. */
    private static void firstFaultCounts() {
        fault("worn 1 2 12345;", 7);
        fault("worn 12345 wear;", 5);
        fault("worn wear 12345;", 5);
        fault("worn 1+;broken {;", 7);
        fault("worn 1;check ((((((1;", 7);
        fault("worn ((((((wear;", 10);
        fault("worn 1;broken 2;check 3", 23);
        fault("worn {", 5);
        fault("worn {1", 5);
    }

    /** Promise 15: a ( , a not, a - ahead of a ONE while 5 of these are open: the fifth is good, the sixth a FAULT. */
    private static void fiveOpen() {
        good("worn (((((1)))));broken 2;check 3;");
        fault("worn ((((((1))))));broken 2;check 3;", 10);
        good("worn -----1;broken 2;check 3;");
        fault("worn ------1;broken 2;check 3;", 10);
        good("worn not not not not not 1;broken 2;check 3;");
        fault("worn not not not not not not 1;broken 2;check 3;", 25);
        good("worn not(-(-1));broken 2;check 3;");
        fault("worn not(-(--1));broken 2;check 3;", 12);
        fault("worn not(-((-1)));broken 2;check 3;", 12);
        fault("worn not(-((not 1)));broken 2;check 3;", 12);
        good("worn 1;broken 2;check not(not(-3));");
        fault("worn 1;broken 2;check not(not((-3)));", 31);
        fault("worn " + "(".repeat(155), 10);
        fault("worn " + "-".repeat(155), 10);
        fault("worn" + " not".repeat(39), 25);
    }

    /** Promise 15: a ( till its ) , not and - till what they belong to ends; a - that joins two is none of these. */
    private static void openTillTheyEnd() {
        good("worn (((((1)))))+(((((1)))))*(((((1)))))<(((((1)))));broken 2;check 3;");
        good("worn -----1+-----1*-----1=-----1;broken 2;check 3;");
        good("worn (((((1)))))and not not not not not 1 or -----1;broken 2;check 3;");
        good("worn (((((1-1-1)))));broken -----1-1-1;check ((((-1-1-1))));");
        good("worn ((((-1)+1)-(-1)));broken 2;check 3;");
        fault("worn ((((-1)+1)-(-(-(1))));", 19);
        fault("worn (((((1+(1))))));broken 2;check 3;", 12);
        fault("worn (((((1+-1)))));broken 2;check 3;", 12);
        fault("worn (((((1-1)+(1)+(((1;", 20);
        good("worn (((-(1)-(1))));broken 2;check 3;");
        fault("worn ((((-(1)-(1)))));broken 2;check 3;", 10);
        fault("worn not not not not not 1<-1;broken 2;check 3;", 27);
        fault("worn not not not not not(1);broken 2;check 3;", 24);
        good("worn not not not not -1<-1;broken 2;check 3;");
        good("worn not not not not not 1 and not not not not not 1;broken 2;check 3;");
        good("worn -(-(-1))-(-(-1));broken 2;check 3;");
        good("worn not 1 or(((((1)))));broken 2;check 3;");
        fault("worn not 1<(((((1)))));broken 2;check 3;", 15);
        fault("worn not(1)<((((1))))+(((((1)))));broken 2;check 3;", 26);
    }

    /** Promise 15: each of ( , not and - counts, whatever the five are that are open. */
    private static void fiveOpenOfEachSort() {
        String[] heads = {"(", "-", "not "};
        for (int n = 0; n < 243; n++) {
            StringBuilder open = new StringBuilder();
            StringBuilder closed = new StringBuilder();
            int rest = n;
            boolean stands = true;
            for (int i = 0; i < 5; i++) {
                stands &= rest % 3 != 2 || open.length() == 0 || open.charAt(open.length() - 1) != '-';
                open.append(heads[rest % 3]);
                closed.append(rest % 3 == 0 ? ")" : "");
                rest /= 3;
            }
            if (!stands) {
                continue;
            }
            good("worn " + open + "1" + closed + ";broken 2;check 3;");
            fault("worn " + open + "(1)" + closed + ";broken 2;check 3;", 5 + open.length());
            fault("worn " + open + "-1" + closed + ";broken 2;check 3;", 5 + open.length());
            if (open.charAt(open.length() - 1) != '-') {
                fault("worn " + open + "not 1" + closed + ";broken 2;check 3;", 5 + open.length());
            }
        }
    }

    /** Promise 15: TEXTS and FAULTS of as many bytes as THE TAPE has; the last place of a FAULT. */
    private static void textOf160Bytes() {
        String sums = "worn 1;broken 1;check 1" + "+1".repeat(68);
        good(sums + ";");
        fault(sums + "+", 160);
        fault(sums + ")", 159);
        fault(sums + "{", 159);
        good(TEXT + " ".repeat(136));
        good(" ".repeat(136) + TEXT);
        ToolCrib x = Cribs.cutting(0, 1, 9, 1);
        Cribs.text(x, sums + ";");
        x.force(2);
        D.is("69 ones", x.says(0, 2), 69);
        fault(";".repeat(160), 0);
        fault("w".repeat(160), 0);
        fault("1".repeat(160), 0);
    }

    /** Promise 15: a WORD that differs from a KEY or a NAME in one letter, wherever it is, or lacks one, is neither. */
    private static void nearWords() {
        String[] names = {"cuts", "speed", "stuff", "life", "reading", "nominal"};
        for (String name : names) {
            for (int i = 0; i < name.length(); i++) {
                fault("worn " + changed(name, i) + ";broken 2;check 3;", 5);
                fault("worn " + without(name, i) + ";broken 2;check 3;", 5);
            }
        }
        String[] parts = {"worn 1;", "broken 2;", "check 3;"};
        String ahead = "";
        for (String part : parts) {
            int letters = part.indexOf(' ');
            for (int i = 0; i < letters; i++) {
                fault(ahead + changed(part, i), ahead.length());
                fault(ahead + without(part, i), ahead.length());
            }
            ahead += part;
        }
        for (String key : new String[] {"or", "and"}) {
            for (int i = 0; i < key.length(); i++) {
                fault("worn 1 " + changed(key, i) + " 2;broken 2;check 3;", 7);
                fault("worn 1 " + without(key, i) + " 2;broken 2;check 3;", 7);
            }
        }
        for (int i = 0; i < 3; i++) {
            fault("worn " + changed("not", i) + " 2;broken 2;check 3;", 5);
            fault("worn " + without("not", i) + " 2;broken 2;check 3;", 5);
        }
    }

    private static String changed(String word, int i) {
        return word.substring(0, i) + (char) (word.charAt(i) == 'x' ? 'y' : 'x') + word.substring(i + 1);
    }

    private static String without(String word, int i) {
        return word.substring(0, i) + word.substring(i + 1);
    }

    /** Promise 16: A TEXT is THE RULE: which was, at first 0; BAD: none such, of 1, 2, 3 and 6 there are. */
    private static void forced() {
        D.ends("force, TEXT 0 alone", ToolCrib::new, ToolCrib::force, Due.at(0, 0), Due.at(0, 0), ToolCrib.BAD);
        D.ends("force, 3 TEXTS", Cribs::busy, ToolCrib::force, Due.at(0, 1), Due.at(2, 1), ToolCrib.BAD);
        D.ends("force, 6 TEXTS", Cribs::full, ToolCrib::force, Due.at(0, 1), Due.at(5, 1), ToolCrib.BAD);
        ToolCrib x = Cribs.full();
        int was = 1;
        for (int t : new int[] {5, 5, 0, 0, 3, 1, 4, 2, 5}) {
            D.is("force(" + t + ")", x.force(t), was);
            D.is("count(6)", x.count(6), t);
            D.is("check of it", x.says(0, 2), t == 0 ? 0 : t);
            was = t;
        }
        ToolCrib y = new ToolCrib();
        Cribs.text(y, "worn");
        D.is("a FAULT is no TEXT", y.force(1), ToolCrib.BAD);
    }

    /** Promise 17: a part 0, 1, 2 for a TOOL; NO: none such. */
    private static void saysRefused() {
        D.ends("says: TOOL", Cribs::busy, (x, n) -> x.says(n, 2), Due.at(0, 1), Due.at(5, 1), ToolCrib.NO);
        D.ends("says: TOOL, full", Cribs::full, (x, n) -> x.says(n, 2), Due.at(0, 1), Due.at(9, 1), ToolCrib.NO);
        D.ends("says: part", Cribs::busy, (x, n) -> x.says(3, n), Due.at(0, 1), Due.at(2, 1), ToolCrib.NO);
        D.refused("says: no TOOLS", ToolCrib::new, x -> x.says(0, 0), ToolCrib.NO);
        D.is("NO", ToolCrib.NO, -4611686018427387904L);
    }

    /** Promise 17: cuts, speed and stuff are 0 at first, reading is 0: never; life and nominal at their ends. */
    private static void namesAtFirst() {
        ToolCrib x = Cribs.ruled("cuts+speed+stuff", "reading", "life*1000+nominal");
        x.edge(0, 10, 10, 1, 1);
        x.edge(0, 200, 10, 1, 999);
        x.tool(20, 0, 1, 0);
        x.tool(300, 1, 1, 0);
        for (int t = 0; t < 2; t++) {
            D.is("cuts, speed and stuff", x.says(t, 0), 0);
            D.is("reading", x.says(t, 1), 0);
        }
        D.is("the least life and nominal", x.says(0, 2), 1030);
        D.is("the most", x.says(1, 2), 999500);
        x.setter(50, 20);
        x.measure(0);
        D.is("a reading below 0", x.says(0, 1), -20);
        ToolCrib y = Cribs.cutting(0, 1, 999, 20);
        Cribs.text(y, "worn cuts;broken 0*speed;check speed*100+stuff;");
        y.force(2);
        y.cut(0, 0, 99, 20);
        D.is("the most cuts", y.says(0, 0), 99);
        D.is("the most speed and stuff", y.says(0, 2), 2020);
        D.is("worn by cuts", y.edgeTold(0, 5), 1);
        y.grind(0, 10);
        D.is("no cuts of the corner", y.says(0, 0), 0);
        D.is("the latest CUT of the EDGE", y.says(0, 2), 2020);
    }

    private static void value(String e, long want) {
        for (int part = 0; part < 3; part++) {
            String[] parts = {"7", "8", "9"};
            parts[part] = e;
            ToolCrib x = Cribs.ruled(parts[0], parts[1], parts[2]);
            x.edge(0, 100, 50, 1, 50);
            x.tool(100, 0, 1, 0);
            D.is(e, x.says(0, part), want);
        }
    }

    /** Promise 17: an E is an int (32 bits, wrapping): sums, differences, products and - at both ends. */
    private static void wrapping() {
        String most = "9999*9999*21+9999*4790+8416";
        value(most, Integer.MAX_VALUE);
        value(most + "+1", Integer.MIN_VALUE);
        value("-(" + most + ")-1", Integer.MIN_VALUE);
        value("-(" + most + ")-2", Integer.MAX_VALUE);
        value("-(" + most + "+1)", Integer.MIN_VALUE);
        value("(" + most + "+1)*-1", Integer.MIN_VALUE);
        value("(" + most + ")*2", -2);
        value("0-(" + most + ")", -Integer.MAX_VALUE);
        value("8192*8*8192*8", 0);
        value("8192*8*8192*4", Integer.MIN_VALUE);
        value("8192*8*4096*4", 1 << 30);
        value("9999*9999*9999*9999", 9999 * 9999 * 9999 * 9999);
        value(most + "<" + most + "+1", 0);
        value(most + "+1<0", 1);
        value("8192*8*8192*8=0", 1);
        value("not 8192*8*8192*8", 1);
        value("8192*8*8192*8 or 0", 0);
        value("0", 0);
        value("9999", 9999);
        value("0009", 9);
    }

    /** Promise 17: of or, and, not, <, = 1 or 0; what is not 0 is true; like ones are not below one another. */
    private static void truths() {
        value("0 or 0", 0);
        value("0 or -1", 1);
        value("7 or 0", 1);
        value("7 and -7", 1);
        value("7 and 0", 0);
        value("0 and 7", 0);
        value("0 and 0", 0);
        value("not 0", 1);
        value("not 1", 0);
        value("not -1", 0);
        value("not 9999", 0);
        value("1<2", 1);
        value("2<2", 0);
        value("3<2", 0);
        value("-1<0", 1);
        value("0<-1", 0);
        value("2=2", 1);
        value("2=1", 0);
        value("-0=0", 1);
    }

    /** An EDGE in MACHINE 0 under TEXT 0. */
    private static ToolCrib underTextZero(int life, int speed) {
        return Cribs.cuttingBy(new ToolCrib(), 0, 1, life, speed);
    }

    /** Promise 1: TEXT 0 is THE RULE, worn life < cuts: as many cuts as its LIFE are good, one more is worn. */
    private static void textZeroWorn() {
        ToolCrib x = underTextZero(99, 1);
        x.cut(0, 0, 99, 1);
        D.is("life = cuts: worn", x.says(0, 0), 0);
        D.is("good", x.edgeTold(0, 5), 0);
        x.cut(0, 0, 1, 1);
        D.is("life < cuts: worn", x.says(0, 0), 1);
        D.is("worn", x.edgeTold(0, 5), 1);
        D.is("far from used up", x.used(0, 1), 99);
    }

    /** Promise 1: TEXT 0: broken 500 < cuts * speed. */
    private static void textZeroBroken() {
        ToolCrib x = underTextZero(999, 5);
        x.cut(0, 0, 99, 1);
        x.cut(0, 0, 1, 1);
        D.is("500 = cuts * speed: broken", x.says(0, 1), 0);
        D.is("good", x.edgeTold(0, 5), 0);
        x.cut(0, 0, 1, 1);
        D.is("500 < cuts * speed: broken", x.says(0, 1), 1);
        D.is("broken", x.edgeTold(0, 5), 2);
        ToolCrib y = underTextZero(999, 3);
        y.cut(0, 0, 99, 1);
        y.cut(0, 0, 67, 1);
        D.is("498: good", y.edgeTold(0, 5), 0);
        y.cut(0, 0, 1, 1);
        D.is("501: broken", y.edgeTold(0, 5), 2);
    }

    /** Promise 1: TEXT 0: check reading = nominal: never MEASURED is refused, one less and one more is, too. */
    private static void textZeroCheck() {
        ToolCrib x = underTextZero(10, 5);
        x.take(0);
        for (int off = -1; off <= 1; off++) {
            x.setter(off, 0);
            x.measure(0);
            D.is("check, off by " + off, x.says(0, 2), off == 0 ? 1 : 0);
            D.is("put, off by " + off, x.put(0, 0, 0), off == 0 ? 1 : ToolCrib.STATE);
            x.take(0);
        }
        ToolCrib y = new ToolCrib();
        y.edge(0, 100, 50, 1, 50);
        y.tool(100, 0, 1, 0);
        y.machine(1, 4);
        D.is("check, never MEASURED", y.says(0, 2), 0);
        D.is("put, never MEASURED", y.put(0, 0, 0), ToolCrib.STATE);
    }
}
