/** Promises 1 and 27 to 30 with ordinary numbers; their bounds are in HostBoundsTest. */
public final class HostTest {
    private static final Due D = new Due("HostTest");

    public static void main(String[] args) {
        constants();
        counts();
        sheetsOfEachSort();
        cuts();
        D.end();
    }

    /** The public face: its constants. */
    private static void constants() {
        D.is("NONE", ToolCrib.NONE, -1);
        D.is("BAD", ToolCrib.BAD, -2);
        D.is("STATE", ToolCrib.STATE, -3);
        D.is("FULL", ToolCrib.FULL, -4);
        D.is("NO", ToolCrib.NO, -4611686018427387904L);
    }

    /** Promise 27: how many of each there are. */
    private static void counts() {
        ToolCrib x = new ToolCrib();
        for (int i = 0; i < 4; i++) {
            x.edge(0, 50, 40, 1, 1);
        }
        for (int i = 0; i < 3; i++) {
            x.tool(100, i, 1, i);
            x.measure(i);
        }
        x.machine(1, 4);
        x.machine(20, 4);
        x.job(1);
        Cribs.text(x, "worn 1;broken 0;check 1;");
        Cribs.text(x, "worn 1;broken 0;check 1;");
        x.force(2);
        Cribs.feed(x, "worn!");
        x.setter(2, 0);
        x.calibrate(100);
        for (int i = 0; i < 3; i++) {
            x.put(0, i, i);
        }
        x.cut(0, 1, 1, 1);
        x.force(0);
        x.take(2);
        x.put(1, 2, 0);
        D.is("a broken one", x.cut(1, 2, 60, 1), 2);
        int[] counts = {4, 3, 2, 1, 3, 5, 0, 2, 2};
        for (int what = 0; what < counts.length; what++) {
            D.is("count(" + what + ")", x.count(what), counts[what]);
        }
        x.force(2);
        D.is("count(6)", x.count(6), 2);
        x.grind(1, 1);
        D.is("count(8)", x.count(8), 1);
    }

    /** Promises 28 and 29: a SHEET of each sort, and one that becomes another. */
    private static void sheetsOfEachSort() {
        ToolCrib x = Cribs.ofFamilyTwo();
        for (int sort = 0; sort < 3; sort++) {
            D.is("sheet", x.sheet(3, sort, 4), 1);
            int[] row = {9, 2, 7, 5};
            for (int i = 0; i < row.length; i++) {
                D.is("cell", x.cell(3, i, row[i]), 1);
            }
            D.is("cuts", x.cuts(0, 3, sort, 1, 1), 1);
            D.is("cuts of the edge", x.edgeTold(0, 6), 7 * (sort + 1));
        }
    }

    /** Promise 30: three by three; those that are BAD or that none takes are left out. */
    private static void cuts() {
        ToolCrib x = Cribs.ofFamilyTwo();
        x.sheet(0, 2, 40);
        int[] row = {2, 5, 7, 1, 9, 9, 2, 0, 9, 2, 6, 20, 2, 7, 21, 11, 1, 1, 2, 8, 1};
        for (int i = 0; i < row.length; i++) {
            x.cell(0, 1 + i, row[i]);
        }
        D.is("three of seven", x.cuts(0, 0, 2, 1, 7), 3);
        D.is("5 + 6 + 8", x.edgeTold(0, 6), 19);
        D.is("of one", x.cuts(0, 0, 2, 10, 1), 1);
        D.is("19 + 6", x.edgeTold(0, 6), 25);
        D.is("all 13, from 1 on", x.cuts(0, 0, 2, 1, 13), 3);
        D.is("25 + 19", x.edgeTold(0, 6), 44);
        D.is("stuff and speed of the last", x.used(0, 0) * 99900 / x.used(0, 1), 2 * 3 * (5 * 7 + 6 * 20 + 8) + 3 * 6 * 20);
    }
}
