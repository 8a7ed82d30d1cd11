/** Promises 14 to 17: feed, text, force, says. */
public final class TextsTest {
    private static final Due D = new Due("TextsTest");

    public static void main(String[] args) {
        fed();
        textZero();
        faults();
        faultsOfDepth();
        blanks();
        full();
        forced();
        values();
        names();
        D.end();
    }

    private static void fed() {
        ToolCrib x = new ToolCrib();
        D.is("feed: n 0", x.feed(0, 0), ToolCrib.BAD);
        D.is("feed: n 9", x.feed(9, 0), ToolCrib.BAD);
        D.is("feed 1", x.feed(1, 'w'), 1);
        D.is("feed 2", x.feed(2, 'o' | 'r' << 8 | 'x' << 16), 3);
        D.is("feed 1", x.feed(1, 'n'), 4);
        D.is("count(5)", x.count(5), 4);
        Due.feed(x, " 1;broken 0;check 1;");
        D.is("text", x.text(), 1);
        D.is("the tape is empty then", x.count(5), 0);
        for (int i = 1; i <= 19; i++) {
            D.is("feed 8", x.feed(8, -1), 8 * i);
        }
        D.is("feed 7", x.feed(7, -1), 159);
        D.is("feed: full", x.feed(2, -1), ToolCrib.FULL);
        D.is("feed: bad is named first", x.feed(9, -1), ToolCrib.BAD);
        D.is("refused: the tape stays", x.count(5), 159);
        D.is("feed 1", x.feed(1, -1), 160);
        D.is("feed: full", x.feed(1, -1), ToolCrib.FULL);
        D.is("a byte that begins no token", x.text(), -100);
        D.is("the tape is empty by a fault, too", x.count(5), 0);
    }

    private static void textZero() {
        ToolCrib x = new ToolCrib();
        D.is("count(4)", x.count(4), 1);
        D.is("count(6)", x.count(6), 0);
        x.edge(0, 100, 50, 1, 50);
        x.tool(100, 0, 1, 0);
        D.is("check: never measured", x.says(0, 2), 0);
        x.measure(0);
        D.is("check: as nominal", x.says(0, 2), 1);
        x.machine(10, 4);
        x.put(0, 0, 0);
        x.cut(0, 0, 50, 1);
        D.is("worn: 50 < 50", x.says(0, 0), 0);
        D.is("broken: 500 < 500", x.says(0, 1), 0);
        x.cut(0, 0, 1, 1);
        D.is("worn: 50 < 51", x.says(0, 0), 1);
        D.is("broken: 500 < 510", x.says(0, 1), 1);
        D.is("it is broken", x.edgeTold(0, 5), 2);
        ToolCrib y = new ToolCrib();
        y.edge(0, 100, 50, 1, 999);
        y.tool(100, 0, 1, 0);
        y.machine(3, 4);
        y.measure(0);
        y.put(0, 0, 0);
        y.cut(0, 0, 99, 1);
        y.cut(0, 0, 67, 1);
        D.is("broken: 500 < 498", y.says(0, 1), 0);
        y.cut(0, 0, 1, 1);
        D.is("broken: 500 < 501", y.says(0, 1), 1);
    }

    private static void fault(String text, int place) {
        ToolCrib x = new ToolCrib();
        D.is("text: " + text, Due.text(x, text), -100 - place);
        D.is("no text more", x.count(4), 1);
        D.is("the tape is empty", x.count(5), 0);
    }

    private static void good(String text) {
        D.is("text: " + text, Due.text(new ToolCrib(), text), 1);
    }

    private static void faults() {
        D.is("an empty tape", new ToolCrib().text(), -100);
        fault("worn", 4);
        fault("worn 1", 6);
        fault("worn 1 ; ", 9);
        fault("worn 1;broken 1;check 1", 23);
        fault("worn 1;broken 1;check 1; 2", 25);
        fault("worn 1;broken 1;check 1;;", 24);
        fault("broken 1;", 0);
        fault("worn 1;check 1;", 7);
        fault(" wear 1;", 1);
        fault("wornlife;", 0);
        fault("Worn 1;", 0);
        fault("worn\t1;", 4);
        fault("worn \u00e41;", 5);
        fault("worn \u00001;", 5);
        fault("worn ;", 5);
        fault("worn 1 2;", 7);
        fault("worn 1 life;", 7);
        fault("worn cutss;", 5);
        fault("worn cut;", 5);
        fault("worn cutsz;", 5);
        fault("worn acuts;", 5);
        fault("worn cuts{;", 9);
        fault("worn 1/;", 6);
        fault("worn 1:;", 6);
        fault("worn 12345;", 5);
        fault("worn 00001;", 5);
        fault("worn 1 + 12345678901234567890;", 9);
        fault("worn 1 12345;", 7);
        fault("worn worn;", 5);
        fault("worn 1 + check;", 9);
        fault("worn 1 < 2 < 3;", 11);
        fault("worn 1 = 2 < 3;", 11);
        fault("worn 1 < not 2;", 9);
        fault("worn 1 + not 2;", 9);
        fault("worn - not 2;", 7);
        fault("worn + 2;", 5);
        fault("worn 2 * * 3;", 9);
        fault("worn 2 or;", 9);
        fault("worn 2 and or 3;", 11);
        fault("worn not;", 8);
        fault("worn (1;", 7);
        fault("worn 1);", 6);
        fault("worn ();", 6);
        fault("worn (1 + 2;", 11);
        fault("worn 1 / 2;", 7);
        fault("worn 1 > 2;", 7);
        fault("worn 1;broken (", 15);
        good("worn1;broken2;check3;");
        good("worn 9999;broken 0000;check 1and 2or 3;");
        good("worn not not 1 < 2 and not 3;broken(1<2)+3;check 2*-3--4;");
    }

    private static void faultsOfDepth() {
        good("worn (((((1)))));broken -----1;check not not not not not 1;");
        fault("worn ((((((1))))));broken 1;check 1;", 10);
        fault("worn ------1;broken 1;check 1;", 10);
        fault("worn not not not not not not 1;", 25);
        good("worn not(-(-1));broken 1;check 1;");
        fault("worn not(-(--1));", 12);
        fault("worn not(-((not 1)));", 12);
        fault("worn not(-(-(1)));", 12);
        good("worn not(-(-2-1));broken 1;check 1;");
        good("worn not(-((2-1)));broken 1;check 1;");
        good("worn (((((1-1)))))*(((((1)))))-(((((1)))));broken 1;check 1;");
        good("worn -----1*-----1+-----1;broken 1;check 1;");
        good("worn not not not not not 1 and not not not not not 1;broken 1;check 1;");
        good("worn not not not not(1<2)and not not not not not 1;broken 1;check 1;");
        fault("worn not not not not not 1 < -1;", 29);
        fault("worn not not not not not 1 < (1);", 29);
        good("worn not not not not -1 < -1;broken 1;check 1;");
        fault("worn not not not not not(1);", 24);
        fault("worn (((((1 or (1)))));", 15);
        fault("worn (((((1 or not 1)))));", 15);
    }

    private static void blanks() {
        good("\n  worn\n1 ;\n\nbroken 1\n; check 1 ; \n");
        fault("worn 1;\rbroken 1;check 1;", 7);
        fault("worn 1;broken 1;check 1 \n ", 26);
        fault("worn c uts;", 5);
        good("worn 1 ;broken 1 ;check (((((cuts)))))*1+2-3*4<5*6*7 or 8 and 9 or 10 and not life = 20;");
    }

    private static void full() {
        ToolCrib x = new ToolCrib();
        for (int i = 1; i < 6; i++) {
            D.is("a fault takes no number", Due.text(x, "check"), -100);
            D.is("text " + i, Due.text(x, "worn 1;broken 1;check 1;"), i);
        }
        D.is("count(4)", x.count(4), 6);
        ToolCrib y = new ToolCrib();
        y.edge(0, 100, 50, 1, 50);
        y.tool(100, 0, 1, 0);
        for (int i = 0; i < 20; i++) {
            D.is("a long fault", Due.text(y, "worn 1+2+3+4+5+6+7+8;broken 1+2+3+4+5+6+7+8;"), -144);
        }
        Due.text(y, "worn 1+2;broken 3+4;check 5+6;");
        y.force(1);
        for (int part = 0; part < 3; part++) {
            D.is("a good one behind faults", y.says(0, part), 3 + 4 * part);
        }
        D.is("full is named ahead of a fault", Due.text(x, "check"), ToolCrib.FULL);
        D.is("full: the tape stays", x.count(5), 5);
        D.is("full again", x.text(), ToolCrib.FULL);
        D.is("full: what is fed comes behind", x.feed(1, 'x'), 6);
        D.is("force(5)", x.force(5), 0);
        D.is("160 signs", Due.text(new ToolCrib(), "worn" + "(".repeat(156)), -109);
        D.is("160 signs", Due.text(new ToolCrib(), ";".repeat(160)), -100);
        D.is("160 bytes", Due.text(new ToolCrib(), "worn 1;broken 1;check 1" + "+1".repeat(68) + ";"), 1);
        D.is("160 bytes that end too early", Due.text(new ToolCrib(), "worn 1;broken 1;check 12" + "+1".repeat(68)), -260);
        D.is("force(6)", x.force(6), ToolCrib.BAD);
    }

    private static void forced() {
        ToolCrib x = new ToolCrib();
        x.edge(0, 100, 50, 1, 50);
        x.tool(100, 0, 1, 0);
        D.is("text", Due.text(x, "worn 11;broken 12;check 13;"), 1);
        D.is("text", Due.text(x, "worn 21;broken 22;check 23;"), 2);
        D.is("force(3)", x.force(3), ToolCrib.BAD);
        D.is("force(-1)", x.force(-1), ToolCrib.BAD);
        D.is("the rule stays", x.count(6), 0);
        D.is("force(2)", x.force(2), 0);
        D.is("force(1)", x.force(1), 2);
        D.is("force(1)", x.force(1), 1);
        D.is("count(6)", x.count(6), 1);
        for (int part = 0; part < 3; part++) {
            D.is("says", x.says(0, part), 11 + part);
        }
        x.force(2);
        for (int part = 0; part < 3; part++) {
            D.is("says", x.says(0, part), 21 + part);
        }
        D.is("a fault", Due.text(x, "worn 31;broken 32;check"), -123);
        D.is("says as before", x.says(0, 0), 21);
        D.is("force: a fault is no text", x.force(3), ToolCrib.BAD);
        D.is("says(0, 3)", x.says(0, 3), ToolCrib.NO);
        D.is("says(0, -1)", x.says(0, -1), ToolCrib.NO);
        D.is("says(1, 0)", x.says(1, 0), ToolCrib.NO);
        D.is("says(-1, 0)", x.says(-1, 0), ToolCrib.NO);
        x.force(0);
        D.is("says text 0 again", x.says(0, 2), 0);
    }

    private static void value(String e, long want) {
        ToolCrib x = Due.ruled(e, "7", "9");
        x.edge(0, 100, 50, 1, 50);
        x.tool(100, 0, 1, 0);
        D.is(e, x.says(0, 0), want);
        ToolCrib y = Due.ruled("7", "9", e);
        y.edge(0, 100, 50, 1, 50);
        y.tool(100, 0, 1, 0);
        D.is(e, y.says(0, 2), want);
    }

    private static void values() {
        value("0", 0);
        value("0007", 7);
        value("9999", 9999);
        value("1 + 2 * 3", 7);
        value("(1 + 2) * 3", 9);
        value("9 - 4 - 3", 2);
        value("9 - (4 - 3)", 8);
        value("9 - 4 + 3", 8);
        value("2 * 3 - 4 * 5", -14);
        value("-2 * 3", -6);
        value("- (2 - 5)", 3);
        value("--3", 3);
        value("2 - -3", 5);
        value("9999 * 9999 * 9999", 9999 * 9999 * 9999);
        value("9999 * 9999 * 9999 * 9999", 9999 * 9999 * 9999 * 9999);
        value("-(9999*9999*22) - 9999 * 9999", -(9999 * 9999 * 22) - 9999 * 9999);
        value("1 < 2", 1);
        value("2 < 1", 0);
        value("2 < 2", 0);
        value("-2 < 1", 1);
        value("2 = 2", 1);
        value("2 = 3", 0);
        value("1 + 1 = 2 * 1", 1);
        value("(1 < 2) + (3 < 4)", 2);
        value("2 and 3", 1);
        value("2 and 0", 0);
        value("0 and 2", 0);
        value("0 or 5", 1);
        value("5 or 0", 1);
        value("0 or 0", 0);
        value("-1 or 0", 1);
        value("1 or 0 and 0", 1);
        value("0 and 0 or 1", 1);
        value("(1 or 0) and 0", 0);
        value("2 and 3 and 0", 0);
        value("0 or 0 or 4", 1);
        value("not 0", 1);
        value("not 5", 0);
        value("not not 5", 1);
        value("not 1 < 0", 1);
        value("not 0 and 0", 0);
        value("not 0 or 1", 1);
        value("not 3 = 3", 0);
        value("(not 3) = 0", 1);
        value("1 + (2 + (3 + (4 + (5 + (6 * 7)))))", 57);
        value("0or 0and(0or 1and(0or 1and(0or 1and(0or 1and(0or 1and 1<2+3*4)))))", 0);
        value("0or 1and(0or 1and(0or 1and(0or 1and(0or 1and(0or 1and 1<2+3*4)))))", 1);
        value("0or 1and 1<2+3*(0or 1and 1<2+3*(0or 1and 1<2+3*(0or 1and 1<2+3*(0or 1and 1=2-1*(0or 1and 1<2+3*4)))))", 1);
    }

    private static void names() {
        ToolCrib x = Due.ruled("cuts * 100 * 100 + speed * 100 + stuff", "0 * life", "(reading * 1000 + nominal) * (0 < life)");
        x.edge(0, 100, 50, 1, 999);
        x.tool(100, 0, 1, 0);
        x.machine(17, 4);
        x.machine(3, 4);
        D.is("at first", x.says(0, 0), 0);
        D.is("never measured", x.says(0, 2), 200);
        x.setter(5, 0);
        x.measure(0);
        D.is("measured", x.says(0, 2), 195200);
        D.is("put", x.put(0, 0, 0), 1);
        D.is("cut", x.cut(0, 0, 7, 2), 0);
        D.is("of the latest cut", x.says(0, 0), 71702);
        x.take(0);
        x.put(1, 0, 0);
        D.is("worn by the text", x.cut(1, 0, 7, 2), ToolCrib.STATE);
        x.grind(0, 1);
        D.is("no cuts yet, but a latest cut", x.says(0, 0), 1702);
        D.is("nominal follows, reading stays", x.says(0, 2), 195199);
        D.is("cut", x.cut(1, 0, 9, 4), 0);
        D.is("of the latest cut", x.says(0, 0), 90304);
        ToolCrib y = Due.ruled("life", "cuts = 2 and speed = 17 and stuff = 6", "reading or nominal");
        y.edge(0, 100, 50, 1, 998);
        y.tool(100, 0, 1, 0);
        y.machine(17, 4);
        y.put(0, 0, 0);
        D.is("life", y.says(0, 0), 998);
        D.is("broken as of this cut", y.cut(0, 0, 2, 6), 0);
        D.is("broken", y.edgeTold(0, 5), 2);
    }
}
