/** Promises 1 and 27 to 30: a new object, count, sheet, cell, cuts. */
public final class HostTest {
    private static final Due D = new Due("HostTest");

    public static void main(String[] args) {
        constants();
        newObject();
        counts();
        sheets();
        cells();
        narrowCells();
        cutsRefused();
        cuts();
        D.end();
    }

    private static void constants() {
        D.is("NONE", ToolCrib.NONE, -1);
        D.is("BAD", ToolCrib.BAD, -2);
        D.is("STATE", ToolCrib.STATE, -3);
        D.is("FULL", ToolCrib.FULL, -4);
        D.is("NO", ToolCrib.NO, -4611686018427387904L);
    }

    private static void newObject() {
        ToolCrib other = new ToolCrib();
        other.edge(0, 50, 40, 1, 10);
        other.sheet(0, 0, 4);
        other.calibrate(100);
        ToolCrib x = new ToolCrib();
        int[] counts = {0, 0, 0, 0, 1, 0, 0, 0, 0};
        for (int what = 0; what < counts.length; what++) {
            D.is("count(" + what + ")", x.count(what), counts[what]);
        }
        D.is("edgeTold(0, 0)", x.edgeTold(0, 0), ToolCrib.BAD);
        D.is("toolTold(0, 0)", x.toolTold(0, 0), ToolCrib.BAD);
        D.is("at(0, 0)", x.at(0, 0), ToolCrib.BAD);
        for (int s = 0; s < 4; s++) {
            D.is("cell", x.cell(s, 0, 0), -11);
        }
        D.is("force(0)", x.force(0), 0);
    }

    private static void counts() {
        ToolCrib x = new ToolCrib();
        for (int i = 0; i < 4; i++) {
            x.edge(0, 50, 40, 1, 1);
        }
        for (int i = 0; i < 3; i++) {
            x.tool(100, i, 1, i);
            x.measure(i);
        }
        x.machine(1, 4);
        x.machine(20, 4);
        x.job(1);
        Due.text(x, "worn 1;broken 0;check 1;");
        Due.text(x, "worn 1;broken 0;check 1;");
        x.force(2);
        Due.feed(x, "worn!");
        x.setter(2, 0);
        x.calibrate(100);
        for (int i = 0; i < 3; i++) {
            x.put(0, i, i);
        }
        x.cut(0, 1, 1, 1);
        x.force(0);
        x.take(2);
        x.put(1, 2, 0);
        D.is("a broken one", x.cut(1, 2, 60, 1), 2);
        int[] counts = {4, 3, 2, 1, 3, 5, 0, 2, 2};
        for (int what = 0; what < counts.length; what++) {
            D.is("count(" + what + ")", x.count(what), counts[what]);
        }
        x.force(2);
        D.is("count(6)", x.count(6), 2);
        D.is("count(-1)", x.count(-1), ToolCrib.BAD);
        D.is("count(9)", x.count(9), ToolCrib.BAD);
        x.grind(1, 1);
        D.is("count(8)", x.count(8), 1);
    }

    private static void sheets() {
        ToolCrib x = new ToolCrib();
        D.is("no such sheet", x.sheet(4, 0, 1), ToolCrib.BAD);
        D.is("no such sheet", x.sheet(-1, 0, 1), ToolCrib.BAD);
        D.is("no such sheet ahead of all", x.sheet(4, 0, -1), ToolCrib.BAD);
        D.is("no such sheet, missing", x.sheet(4, -1, 0), ToolCrib.BAD);
        D.is("sort -2", x.sheet(0, -2, 1), ToolCrib.BAD);
        D.is("sort 3", x.sheet(0, 3, 1), ToolCrib.BAD);
        D.is("sort 3 ahead of -14", x.sheet(0, 3, -1), ToolCrib.BAD);
        D.is("n 41", x.sheet(0, 0, 41), ToolCrib.BAD);
        D.is("n -1", x.sheet(0, 0, -1), -14);
        D.is("n least", x.sheet(0, 2, Integer.MIN_VALUE), -14);
        D.is("refused: it is missing", x.cell(0, 0, 1), -11);
        D.is("n 40", x.sheet(0, 0, 40), 1);
        D.is("its last item", x.cell(0, 39, 1), 1);
        D.is("n 0", x.sheet(0, 1, 0), 1);
        D.is("no item", x.cell(0, 0, 1), -12);
        D.is("n 41", x.sheet(0, 1, 41), ToolCrib.BAD);
        D.is("refused: the row stays", x.cell(0, 0, 1), -12);
        for (int n : new int[] {0, 41, -1, Integer.MIN_VALUE}) {
            x.sheet(0, 0, 3);
            D.is("sort -1: n does not matter", x.sheet(0, -1, n), 1);
            D.is("missing", x.cell(0, 0, 1), -11);
        }
        D.is("the last sheet", x.sheet(3, 2, 1), 1);
    }

    private static void cells() {
        ToolCrib x = new ToolCrib();
        x.sheet(2, 0, 6);
        D.is("no such sheet", x.cell(4, 0, 1), ToolCrib.BAD);
        D.is("no such sheet", x.cell(-1, 0, 1), ToolCrib.BAD);
        D.is("missing", x.cell(1, 99, 1), -11);
        D.is("outside", x.cell(2, 6, 1), -12);
        D.is("outside", x.cell(2, -1, 1), -12);
        D.is("outside", x.cell(2, Integer.MIN_VALUE, 1), -12);
        D.is("inside", x.cell(2, 5, 1), 1);
    }

    /** One tool of FAMILY 2 in machine 0, whose edge never wears out by texts. */
    private static ToolCrib shop() {
        ToolCrib x = Due.ruled("0", "0", "1");
        x.edge(0, 100, 50, 1, 999);
        x.tool(100, 0, 1, 2);
        x.machine(3, 4);
        x.put(0, 0, 0);
        return x;
    }

    private static int cutsOfRow(int sort, int family, int cuts, int stuff) {
        ToolCrib x = shop();
        x.sheet(0, sort, 3);
        x.cell(0, 0, family);
        x.cell(0, 1, cuts);
        x.cell(0, 2, stuff);
        return x.cuts(0, 0, sort, 0, 1) * 1000 + x.edgeTold(0, 6);
    }

    private static void narrowCells() {
        int b = 1 << 8;
        int s = 1 << 16;
        D.is("bytes: the lowest 8", cutsOfRow(0, 2 + b, 7 - b, 5 + 3 * b), 1007);
        D.is("bytes: the lowest 8", cutsOfRow(0, 2 + s, 7 - s, 5 + 3 * s), 1007);
        D.is("bytes: 135 is no 7", cutsOfRow(0, 2, 135, 5), 0);
        D.is("shorts: more than 8", cutsOfRow(1, 2 + b, 7, 5), 0);
        D.is("shorts: more than 8", cutsOfRow(1, 2, 7 + b, 5), 0);
        D.is("shorts: the lowest 16", cutsOfRow(1, 2 + s, 7 - s, 5 + 3 * s), 1007);
        D.is("ints: all", cutsOfRow(2, 2 + s, 7, 5), 0);
        D.is("ints: all", cutsOfRow(2, 2, 7 - s, 5), 0);
        D.is("ints", cutsOfRow(2, 2, 7, 5), 1007);
    }

    private static void cutsRefused() {
        ToolCrib x = shop();
        x.sheet(0, 0, 6);
        D.is("no such machine", x.cuts(1, 0, 0, 0, 1), ToolCrib.BAD);
        D.is("no such machine", x.cuts(-1, 0, 0, 0, 1), ToolCrib.BAD);
        D.is("no such sheet", x.cuts(0, 4, 0, 0, 1), ToolCrib.BAD);
        D.is("no such sheet", x.cuts(0, -1, 0, 0, 1), ToolCrib.BAD);
        D.is("no such sort", x.cuts(0, 0, 3, 0, 1), ToolCrib.BAD);
        D.is("no such sort", x.cuts(0, 0, -1, 0, 1), ToolCrib.BAD);
        D.is("no such sort, missing", x.cuts(0, 1, -1, 0, 1), ToolCrib.BAD);
        D.is("n -1", x.cuts(0, 0, 0, 0, -1), ToolCrib.BAD);
        D.is("n 14", x.cuts(0, 0, 0, 0, 14), ToolCrib.BAD);
        D.is("n 14 ahead of -13", x.cuts(0, 0, 1, 0, 14), ToolCrib.BAD);
        D.is("another sort", x.cuts(0, 0, 1, 0, 1), -13);
        D.is("another sort, none", x.cuts(0, 0, 2, 99, 0), -13);
        D.is("missing", x.cuts(0, 1, 0, 0, 1), -11);
        D.is("missing ahead of -12", x.cuts(0, 1, 2, 99, 1), -11);
        D.is("missing, none", x.cuts(0, 1, 1, 0, 0), -11);
        D.is("none", x.cuts(0, 0, 0, 0, 0), 0);
        D.is("none, from outside", x.cuts(0, 0, 0, 99, 0), 0);
        D.is("from -1", x.cuts(0, 0, 0, -1, 1), -12);
        D.is("from 6", x.cuts(0, 0, 0, 6, 1), -12);
        D.is("from most", x.cuts(0, 0, 0, Integer.MAX_VALUE, 13), -12);
        D.is("from least", x.cuts(0, 0, 0, Integer.MIN_VALUE, 13), -12);
        D.is("no cuts by all that", x.edgeTold(0, 6), 0);
    }

    private static void cuts() {
        ToolCrib x = shop();
        x.sheet(0, 2, 40);
        int[] row = {2, 5, 7, 1, 9, 9, 2, 0, 9, 2, 6, 20, 2, 7, 21, 11, 1, 1, 2, 8, 1};
        for (int i = 0; i < row.length; i++) {
            x.cell(0, 1 + i, row[i]);
        }
        D.is("three of seven", x.cuts(0, 0, 2, 1, 7), 3);
        D.is("5 + 6 + 8", x.edgeTold(0, 6), 19);
        D.is("of one", x.cuts(0, 0, 2, 10, 1), 1);
        D.is("19 + 6", x.edgeTold(0, 6), 25);
        D.is("all 13, from 1 on", x.cuts(0, 0, 2, 1, 13), 3);
        D.is("25 + 19", x.edgeTold(0, 6), 44);
        D.is("all 13, from 2 on: outside", x.cuts(0, 0, 2, 2, 13), -12);
        x.sheet(1, 0, 5);
        x.cell(1, 0, 2);
        x.cell(1, 1, 30);
        x.cell(1, 2, 1);
        x.cell(1, 3, 2);
        x.cell(1, 4, 30);
        int before = x.edgeTold(0, 6);
        D.is("outside behind one", x.cuts(0, 1, 0, 0, 2), -12);
        D.is("what stood ahead was done", x.edgeTold(0, 6), before + 30);
        D.is("told by trail", x.trail(0, 0), 0);
        x.sheet(1, 0, 3);
        D.is("a sheet becomes all 0", x.cuts(0, 1, 0, 0, 1), 0);
        x.cell(1, 0, 2);
        D.is("0 cuts in a stuff of 0", x.cuts(0, 1, 0, 0, 1), 0);
        D.is("nothing was done", x.edgeTold(0, 6), before + 30);
    }
}
