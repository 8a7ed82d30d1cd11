/** Promises 18 to 23: machine, put, take, at, room, cut. */
public final class MachinesTest {
    private static final Due D = new Due("MachinesTest");

    public static void main(String[] args) {
        machines();
        put();
        checked();
        take();
        atAndRoom();
        cutRefused();
        sisters();
        stateAfterCut();
        D.end();
    }

    private static void machines() {
        ToolCrib x = new ToolCrib();
        D.is("speed 0", x.machine(0, 4), ToolCrib.BAD);
        D.is("speed 21", x.machine(21, 4), ToolCrib.BAD);
        D.is("places 3", x.machine(1, 3), ToolCrib.BAD);
        D.is("places 17", x.machine(1, 17), ToolCrib.BAD);
        D.is("count(2)", x.count(2), 0);
        D.is("least", x.machine(1, 4), 0);
        D.is("most", x.machine(20, 16), 1);
        D.is("another", x.machine(20, 16), 2);
        D.is("full", x.machine(20, 16), ToolCrib.FULL);
        D.is("bad is named first", x.machine(20, 17), ToolCrib.BAD);
        D.is("count(2)", x.count(2), 3);
        D.is("at(3, 0)", x.at(3, 0), ToolCrib.BAD);
        D.is("at(0, 3)", x.at(0, 3), ToolCrib.NONE);
        D.is("at(0, 4)", x.at(0, 4), ToolCrib.BAD);
        D.is("at(1, 15)", x.at(1, 15), ToolCrib.NONE);
        D.is("at(1, 16)", x.at(1, 16), ToolCrib.BAD);
    }

    /** Tools 0 to 3 of SIZE 1, 2, 3, 1; machine 0 with 5 places, machine 1 with 4; check is 1. */
    private static ToolCrib shop() {
        ToolCrib x = Due.ruled("0", "0", "1");
        int[] sizes = {1, 2, 3, 1};
        for (int i = 0; i < 4; i++) {
            x.edge(0, 100, 50, 1, 100);
            x.tool(100, i, sizes[i], 0);
        }
        x.machine(4, 5);
        x.machine(5, 4);
        return x;
    }

    private static void put() {
        ToolCrib x = shop();
        D.is("no such machine", x.put(2, 0, 0), ToolCrib.BAD);
        D.is("no such machine", x.put(-1, 0, 0), ToolCrib.BAD);
        D.is("no such tool", x.put(0, 4, 0), ToolCrib.BAD);
        D.is("no such tool", x.put(0, -1, 0), ToolCrib.BAD);
        D.is("no such place", x.put(0, 0, 5), ToolCrib.BAD);
        D.is("no such place", x.put(0, 0, -1), ToolCrib.BAD);
        D.is("no such place in that machine", x.put(1, 0, 4), ToolCrib.BAD);
        D.is("not all are there", x.put(0, 2, 3), ToolCrib.STATE);
        D.is("refused: nothing is held", x.at(0, 3), ToolCrib.NONE);
        D.is("the last ones", x.put(0, 2, 2), 1);
        D.is("it is in one", x.put(0, 2, 0), ToolCrib.STATE);
        D.is("it is in another", x.put(1, 2, 0), ToolCrib.STATE);
        D.is("bad is named first", x.put(0, 2, 5), ToolCrib.BAD);
        D.is("one of two is held", x.put(0, 1, 1), ToolCrib.STATE);
        D.is("held by the last of three", x.put(0, 0, 4), ToolCrib.STATE);
        D.is("the first ones", x.put(0, 1, 0), 1);
        D.is("all are held", x.put(0, 0, 1), ToolCrib.STATE);
        int[] held = {1, 1, 2, 2, 2};
        for (int p = 0; p < 5; p++) {
            D.is("at(0, " + p + ")", x.at(0, p), held[p]);
        }
        D.is("its place", x.toolTold(2, 7), 2);
        D.is("its machine", x.toolTold(2, 6), 0);
        D.is("refused: it is in none", x.toolTold(0, 6), ToolCrib.NONE);
    }

    private static void checked() {
        ToolCrib x = Due.ruled("0", "0", "reading - 150");
        x.edge(0, 50, 40, 1, 100);
        x.tool(100, 0, 1, 0);
        x.machine(1, 4);
        x.measure(0);
        D.is("checked in vain", x.put(0, 0, 0), ToolCrib.STATE);
        D.is("refused: the place is empty", x.at(0, 0), ToolCrib.NONE);
        D.is("refused: it is in none", x.toolTold(0, 6), ToolCrib.NONE);
        x.setter(1, 0);
        x.measure(0);
        D.is("what is not 0 will do", x.put(0, 0, 0), 1);
        x.setter(0, 0);
        x.measure(0);
        D.is("only as it is put", x.at(0, 0), 0);
    }

    private static void take() {
        ToolCrib x = shop();
        D.is("no such tool", x.take(4), ToolCrib.BAD);
        D.is("no such tool", x.take(-1), ToolCrib.BAD);
        D.is("in none", x.take(2), ToolCrib.STATE);
        x.put(1, 2, 1);
        x.put(1, 0, 0);
        D.is("take", x.take(2), 1);
        D.is("take again", x.take(2), ToolCrib.STATE);
        D.is("the other stays", x.at(1, 0), 0);
        for (int p = 1; p < 4; p++) {
            D.is("empty", x.at(1, p), ToolCrib.NONE);
        }
        D.is("its place", x.toolTold(2, 7), ToolCrib.NONE);
        D.is("put again", x.put(0, 2, 0), 1);
        D.is("take", x.take(2), 0);
    }

    private static void atAndRoom() {
        ToolCrib x = shop();
        D.is("at: no such machine", x.at(2, 0), ToolCrib.BAD);
        D.is("at: no such machine", x.at(-1, 0), ToolCrib.BAD);
        D.is("at: no such place", x.at(0, 5), ToolCrib.BAD);
        D.is("at: no such place", x.at(0, -1), ToolCrib.BAD);
        D.is("room: no such machine", x.room(2, 0), ToolCrib.BAD);
        D.is("room: no such machine", x.room(-1, 0), ToolCrib.BAD);
        D.is("room: no such tool", x.room(0, 4), ToolCrib.BAD);
        D.is("room: no such tool", x.room(0, -1), ToolCrib.BAD);
        D.is("room(0, 2)", x.room(0, 2), 0);
        x.put(0, 0, 1);
        D.is("room for 1", x.room(0, 3), 0);
        D.is("room for 2", x.room(0, 1), 2);
        D.is("room for 3", x.room(0, 2), 2);
        D.is("room for one that is in a magazine", x.room(0, 0), 0);
        x.put(0, 3, 4);
        D.is("room for 2", x.room(0, 1), 2);
        D.is("no room for 3", x.room(0, 2), ToolCrib.NONE);
        D.is("room in the other", x.room(1, 2), 0);
        x.put(0, 1, 2);
        D.is("room for 1", x.room(0, 0), 0);
        D.is("no room for 2", x.room(0, 1), ToolCrib.NONE);
        ToolCrib y = new ToolCrib();
        y.edge(0, 100, 50, 1, 100);
        y.tool(100, 0, 1, 0);
        y.machine(1, 4);
        D.is("room does not check", y.room(0, 0), 0);
    }

    private static void cutRefused() {
        ToolCrib x = shop();
        x.put(0, 0, 0);
        D.is("no such machine", x.cut(2, 0, 1, 1), ToolCrib.BAD);
        D.is("no such machine", x.cut(-1, 0, 1, 1), ToolCrib.BAD);
        D.is("family -1", x.cut(0, -1, 1, 1), ToolCrib.BAD);
        D.is("family 10", x.cut(0, 10, 1, 1), ToolCrib.BAD);
        D.is("cuts 0", x.cut(0, 0, 0, 1), ToolCrib.BAD);
        D.is("cuts 100", x.cut(0, 0, 100, 1), ToolCrib.BAD);
        D.is("stuff 0", x.cut(0, 0, 1, 0), ToolCrib.BAD);
        D.is("stuff 21", x.cut(0, 0, 1, 21), ToolCrib.BAD);
        D.is("none of that family", x.cut(0, 1, 1, 1), ToolCrib.STATE);
        D.is("none in that machine", x.cut(1, 0, 1, 1), ToolCrib.STATE);
        D.is("refused: no cuts", x.edgeTold(0, 6), 0);
        D.is("refused: no trail", x.trail(0, 0), ToolCrib.NONE);
        D.is("the most", x.cut(0, 0, 99, 20), 0);
        D.is("cuts", x.edgeTold(0, 6), 99);
    }

    private static void sisters() {
        ToolCrib x = Due.ruled("0", "0", "1");
        int[] lives = {10, 20, 20, 40, 5};
        int[] families = {3, 3, 3, 3, 4};
        for (int i = 0; i < 5; i++) {
            x.edge(0, 100, 50, 1, lives[4 - i]);
        }
        for (int i = 0; i < 5; i++) {
            x.tool(100, 4 - i, 1, families[i]);
        }
        x.machine(10, 16);
        x.machine(10, 16);
        x.put(0, 3, 0);
        x.put(0, 2, 1);
        x.put(0, 1, 2);
        x.put(1, 0, 0);
        x.put(0, 4, 3);
        D.is("like ones: the least", x.cut(0, 3, 10, 1), 1);
        D.is("the most used", x.cut(0, 3, 1, 1), 1);
        x.take(1);
        D.is("of the others the least", x.cut(0, 3, 10, 1), 2);
        x.take(2);
        D.is("of the others", x.cut(0, 3, 15, 2), 3);
        D.is("300 by 4000", x.used(1, 1), 40);
        D.is("100 by 2000", x.used(2, 1), 20);
        x.put(0, 2, 4);
        x.put(0, 1, 5);
        D.is("3/40 ahead of 11/200 and 1/20", x.cut(0, 3, 1, 1), 3);
        x.grind(1, 1);
        D.is("11/200 ahead of 1/20 and 0", x.cut(0, 3, 8, 1), 1);
        D.is("another family", x.cut(0, 4, 1, 1), 4);
        D.is("another machine", x.cut(1, 3, 1, 1), 0);
        for (int i = 0; i < 3; i++) {
            x.cut(0, 3, 99, 1);
        }
        D.is("worn", x.edgeTold(3, 5), 1);
        D.is("a sister takes over", x.cut(0, 3, 1, 1), 2);
        D.is("worn ones", x.count(8), 1);
        ToolCrib y = Due.ruled("0", "0", "1");
        for (int i = 0; i < 2; i++) {
            y.edge(0, 100, 50, 1, 10 + 10 * i);
            y.tool(100, i, 1, 0);
        }
        y.machine(10, 4);
        y.machine(10, 4);
        y.put(0, 0, 0);
        y.put(1, 1, 0);
        y.cut(0, 0, 5, 2);
        y.cut(1, 0, 10, 2);
        y.take(1);
        y.put(0, 1, 1);
        D.is("1/10 is 1/10: the least", y.cut(0, 0, 1, 1), 0);
    }

    private static void stateAfterCut() {
        ToolCrib x = shop();
        x.put(0, 0, 0);
        D.is("9999 by 10000 is good", x.cut(0, 0, 99, 20), 0);
        x.cut(0, 0, 5, 20);
        x.cut(0, 0, 99, 4);
        D.is("9904 by 10000", x.used(0, 0), 619);
        D.is("good", x.edgeTold(0, 5), 0);
        x.cut(0, 0, 24, 1);
        D.is("10000 by 10000: worn", x.edgeTold(0, 5), 1);
        D.is("used", x.used(0, 0), 1);
        D.is("used", x.used(0, 1), 1);
        ToolCrib y = Due.ruled("cuts = 5", "cuts = 7 or cuts = 50", "1");
        y.edge(0, 100, 50, 1, 1);
        y.tool(100, 0, 1, 0);
        y.machine(1, 4);
        y.put(0, 0, 0);
        y.cut(0, 0, 5, 1);
        D.is("worn by the text", y.edgeTold(0, 5), 1);
        D.is("a worn one takes none", y.cut(0, 0, 1, 1), ToolCrib.STATE);
        y.grind(0, 1);
        y.cut(0, 0, 50, 2);
        D.is("used up, but broken", y.edgeTold(0, 5), 2);
        D.is("a broken one takes none", y.cut(0, 0, 1, 1), ToolCrib.STATE);
        D.is("not good", y.count(8), 1);
        ToolCrib z = Due.ruled("1", "stuff - 2", "1");
        z.edge(0, 100, 50, 1, 100);
        z.tool(100, 0, 1, 0);
        z.machine(1, 4);
        z.put(0, 0, 0);
        z.cut(0, 0, 1, 1);
        D.is("broken: -1 isn't 0", z.edgeTold(0, 5), 2);
    }
}
