/** Promises 14 to 17 with ordinary TEXTS; their bounds and the FAULTS are in TextsBoundsTest. */
public final class TextsTest {
    private static final Due D = new Due("TextsTest");

    public static void main(String[] args) {
        fed();
        textZero();
        forced();
        values();
        deepValues();
        names();
        D.end();
    }

    /** Promises 14 and 15: a TEXT that comes in pieces, cut anywhere. */
    private static void fed() {
        String text = "worn 11;broken 22;check 33;";
        for (int n = 1; n <= 8; n++) {
            ToolCrib x = Cribs.cutting(0, 1, 9, 1);
            for (int from = 0; from < text.length(); from += n) {
                String piece = text.substring(from, Math.min(text.length(), from + n));
                D.is("feed", Cribs.feed(x, piece), from + piece.length());
                D.is("count(5)", x.count(5), from + piece.length());
            }
            D.is("text", x.text(), 2);
            D.is("force", x.force(2), 1);
            for (int part = 0; part < 3; part++) {
                D.is("says", x.says(0, part), 11 * (part + 1));
            }
        }
    }

    /** Promise 1: TEXT 0 as the rule. */
    private static void textZero() {
        ToolCrib x = Cribs.cuttingBy(new ToolCrib(), 0, 1, 50, 10);
        int[] first = {0, 0, 1}, then = {1, 1, 1};
        for (int part = 0; part < 3; part++) {
            D.is("says(0, " + part + ")", x.says(0, part), first[part]);
        }
        x.cut(0, 0, 60, 1);
        for (int part = 0; part < 3; part++) {
            D.is("says(0, " + part + ")", x.says(0, part), then[part]);
        }
        D.is("it is broken", x.edgeTold(0, 5), 2);
    }

    /** Promises 16 and 17: each TEXT says its own. */
    private static void forced() {
        ToolCrib x = Cribs.cutting(0, 1, 9, 1);
        D.is("text", Cribs.text(x, "worn 11;broken 12;check 13;"), 2);
        D.is("text", Cribs.text(x, "worn 21;broken 22;check 23;"), 3);
        D.is("force(3)", x.force(3), 1);
        D.is("force(2)", x.force(2), 3);
        for (int part = 0; part < 3; part++) {
            D.is("says", x.says(0, part), 11 + part);
        }
        D.is("force(3)", x.force(3), 2);
        for (int part = 0; part < 3; part++) {
            D.is("says", x.says(0, part), 21 + part);
        }
    }

    private static void value(String e, long want) {
        ToolCrib x = Cribs.ruled(e, "7", "9");
        x.edge(0, 100, 50, 1, 50);
        x.tool(100, 0, 1, 0);
        D.is(e, x.says(0, 0), want);
        ToolCrib y = Cribs.ruled("7", "9", e);
        y.edge(0, 100, 50, 1, 50);
        y.tool(100, 0, 1, 0);
        D.is(e, y.says(0, 2), want);
    }

    /** Promise 17: what binds more, and what comes first of like ones. */
    private static void values() {
        value("1 + 2 * 3", 7);
        value("(1 + 2) * 3", 9);
        value("9 - 4 - 3", 2);
        value("9 - (4 - 3)", 8);
        value("9 - 4 + 3", 8);
        value("2 * 3 - 4 * 5", -14);
        value("-2 * 3", -6);
        value("- (2 - 5)", 3);
        value("--3", 3);
        value("2 - -3", 5);
        value("1 + 1 = 2 * 1", 1);
        value("(1 < 2) + (3 < 4)", 2);
        value("1 or 0 and 0", 1);
        value("0 and 0 or 1", 1);
        value("(1 or 0) and 0", 0);
        value("2 and 3 and 0", 0);
        value("0 or 0 or 4", 1);
        value("not not 5", 1);
        value("not 1 < 0", 1);
        value("not 0 and 0", 0);
        value("not 0 or 1", 1);
        value("not 3 = 3", 0);
        value("(not 3) = 0", 1);
    }

    /** Promise 17: values that wait for others, as many as there can be. */
    private static void deepValues() {
        value("1 + (2 + (3 + (4 + (5 + (6 * 7)))))", 57);
        value("0or 0and(0or 1and(0or 1and(0or 1and(0or 1and(0or 1and 1<2+3*4)))))", 0);
        value("0or 1and(0or 1and(0or 1and(0or 1and(0or 1and(0or 1and 1<2+3*4)))))", 1);
        value("0or 1and 1<2+3*(0or 1and 1<2+3*(0or 1and 1<2+3*(0or 1and 1<2+3*(0or 1and 1=2-1*(0or 1and 1<2+3*4)))))", 1);
    }

    /** Promises 15 and 17: cuts, speed, stuff, life, reading and nominal of a TOOL. */
    private static void names() {
        ToolCrib x = Cribs.ruled("cuts * 100 * 100 + speed * 100 + stuff", "0 * life", "(reading * 1000 + nominal) * (0 < life)");
        x.edge(0, 100, 50, 1, 999);
        x.tool(100, 0, 1, 0);
        x.machine(17, 4);
        x.machine(3, 4);
        D.is("never measured", x.says(0, 2), 200);
        x.setter(5, 0);
        x.measure(0);
        D.is("measured", x.says(0, 2), 195200);
        D.is("put", x.put(0, 0, 0), 1);
        D.is("cut", x.cut(0, 0, 7, 2), 0);
        D.is("of the latest cut", x.says(0, 0), 71702);
        x.take(0);
        x.put(1, 0, 0);
        D.is("worn by the text", x.cut(1, 0, 7, 2), ToolCrib.STATE);
        x.grind(0, 1);
        D.is("no cuts yet, but a latest cut", x.says(0, 0), 1702);
        D.is("nominal follows, reading stays", x.says(0, 2), 195199);
        D.is("cut", x.cut(1, 0, 9, 4), 0);
        D.is("of the latest cut", x.says(0, 0), 90304);
        ToolCrib y = Cribs.cuttingBy(Cribs.ruled("life", "cuts = 2 and speed = 17 and stuff = 6", "reading or nominal"), 0, 1, 998, 17);
        D.is("life", y.says(0, 0), 998);
        D.is("broken as of this cut", y.cut(0, 0, 2, 6), 0);
        D.is("broken", y.edgeTold(0, 5), 2);
    }
}
