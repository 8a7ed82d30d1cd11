/** Promises 18 to 23 with ordinary numbers; their bounds are in MachinesBoundsTest. */
public final class MachinesTest {
    private static final Due D = new Due("MachinesTest");

    public static void main(String[] args) {
        magazine();
        room();
        sisters();
        worn();
        broken();
        D.end();
    }

    /** TOOLS 0 to 3 of SIZES 1, 2, 3, 1; MACHINE 0 with 5 places, MACHINE 1 with 4; check is 1. */
    private static ToolCrib shop() {
        ToolCrib x = Cribs.easy();
        int[] sizes = {1, 2, 3, 1};
        for (int i = 0; i < 4; i++) {
            x.edge(0, 100, 50, 1, 100);
            x.tool(100, i, sizes[i], 0);
        }
        x.machine(4, 5);
        x.machine(5, 4);
        return x;
    }

    private static void held(ToolCrib x, int machine, int... tools) {
        for (int p = 0; p < tools.length; p++) {
            D.is("at(" + machine + ", " + p + ")", x.at(machine, p), tools[p]);
        }
    }

    /** Promises 18 to 21: TOOLS put into magazines and taken out. */
    private static void magazine() {
        ToolCrib x = shop();
        D.is("put", x.put(0, 2, 2), 1);
        D.is("put", x.put(0, 1, 0), 1);
        D.is("put", x.put(1, 0, 1), 1);
        held(x, 0, 1, 1, 2, 2, 2);
        held(x, 1, -1, 0, -1, -1);
        D.is("take", x.take(2), 0);
        held(x, 0, 1, 1, -1, -1, -1);
        D.is("put", x.put(0, 3, 3), 1);
        D.is("take", x.take(0), 1);
        held(x, 0, 1, 1, -1, 3, -1);
        held(x, 1, -1, -1, -1, -1);
    }

    /** Promise 22: room beside others; a TOOL's own places are held. */
    private static void room() {
        ToolCrib x = shop();
        x.put(0, 0, 1);
        D.is("room for 1", x.room(0, 3), 0);
        D.is("room for 2", x.room(0, 1), 2);
        D.is("room for 3", x.room(0, 2), 2);
        D.is("room for one that is in a magazine", x.room(0, 0), 0);
        x.put(0, 3, 4);
        D.is("room for 2", x.room(0, 1), 2);
        D.is("no room for 3", x.room(0, 2), ToolCrib.NONE);
        D.is("room in the other", x.room(1, 2), 0);
        x.put(1, 2, 0);
        D.is("no room for 3 beside itself", x.room(1, 2), ToolCrib.NONE);
    }

    /** Promise 23: of sisters the one with the most USED, of like ones the least. */
    private static void sisters() {
        ToolCrib x = Cribs.easy();
        int[] lives = {10, 20, 20, 40, 5};
        int[] families = {3, 3, 3, 3, 4};
        for (int i = 0; i < 5; i++) {
            x.edge(0, 100, 50, 1, lives[4 - i]);
        }
        for (int i = 0; i < 5; i++) {
            x.tool(100, 4 - i, 1, families[i]);
        }
        x.machine(10, 16);
        x.machine(10, 16);
        x.put(0, 3, 0);
        x.put(0, 2, 1);
        x.put(0, 1, 2);
        x.put(1, 0, 0);
        x.put(0, 4, 3);
        D.is("like ones: the least", x.cut(0, 3, 10, 1), 1);
        D.is("the most used", x.cut(0, 3, 1, 1), 1);
        x.take(1);
        D.is("of the others the least", x.cut(0, 3, 10, 1), 2);
        x.take(2);
        D.is("of the others", x.cut(0, 3, 15, 2), 3);
        D.is("300 by 4000", x.used(1, 1), 40);
        D.is("100 by 2000", x.used(2, 1), 20);
        x.put(0, 2, 4);
        x.put(0, 1, 5);
        D.is("3/40 ahead of 11/200 and 1/20", x.cut(0, 3, 1, 1), 3);
        x.grind(1, 1);
        D.is("11/200 ahead of 1/20 and 0", x.cut(0, 3, 8, 1), 1);
        D.is("another family", x.cut(0, 4, 1, 1), 4);
        D.is("another machine", x.cut(1, 3, 1, 1), 0);
        for (int i = 0; i < 3; i++) {
            x.cut(0, 3, 99, 1);
        }
        D.is("worn", x.edgeTold(3, 5), 1);
        D.is("a sister takes over", x.cut(0, 3, 1, 1), 2);
        D.is("worn ones", x.count(8), 1);
    }

    /** Promise 23: worn by the text or USED up. */
    private static void worn() {
        ToolCrib x = shop();
        x.put(0, 0, 0);
        D.is("7920 by 10000", x.cut(0, 0, 99, 20), 0);
        D.is("good", x.edgeTold(0, 5), 0);
        x.cut(0, 0, 50, 11);
        D.is("10120 by 10000: worn", x.edgeTold(0, 5), 1);
        D.is("used", x.used(0, 0), 253);
        D.is("used", x.used(0, 1), 250);
        ToolCrib y = Cribs.cuttingBy(Cribs.ruled("cuts = 5", "0", "1"), 0, 1, 99, 1);
        D.is("cut", y.cut(0, 0, 4, 1), 0);
        D.is("good", y.edgeTold(0, 5), 0);
        y.cut(0, 0, 1, 1);
        D.is("worn by the text", y.edgeTold(0, 5), 1);
        D.is("a worn one takes none", y.cut(0, 0, 1, 1), ToolCrib.STATE);
    }

    /** Promise 23: broken by the text, also what is USED up. */
    private static void broken() {
        ToolCrib x = Cribs.cuttingBy(Cribs.ruled("0", "cuts = 7 or cuts = 50", "1"), 0, 1, 1, 1);
        x.cut(0, 0, 7, 1);
        D.is("broken by the text", x.edgeTold(0, 5), 2);
        D.is("a broken one takes none", x.cut(0, 0, 1, 1), ToolCrib.STATE);
        ToolCrib y = Cribs.cuttingBy(Cribs.ruled("0", "cuts = 7 or cuts = 50", "1"), 0, 1, 1, 1);
        y.cut(0, 0, 50, 2);
        D.is("used up, but broken", y.edgeTold(0, 5), 2);
        D.is("not good", y.count(8), 1);
    }
}
