/** Promises 9 to 13: tool, toolTold, setter, calibrate, measure. */
public final class ToolsTest {
    private static final Due D = new Due("ToolsTest");

    public static void main(String[] args) {
        tools();
        toolsFull();
        told();
        setter();
        calibrated();
        measured();
        D.end();
    }

    private static void tools() {
        ToolCrib x = new ToolCrib();
        x.edge(0, 50, 40, 1, 10);
        x.edge(0, 50, 40, 1, 10);
        D.is("tool: holder 19", x.tool(19, 0, 1, 0), ToolCrib.BAD);
        D.is("tool: holder 301", x.tool(301, 0, 1, 0), ToolCrib.BAD);
        D.is("tool: no such edge", x.tool(100, 2, 1, 0), ToolCrib.BAD);
        D.is("tool: no such edge", x.tool(100, -1, 1, 0), ToolCrib.BAD);
        D.is("tool: size 0", x.tool(100, 0, 0, 0), ToolCrib.BAD);
        D.is("tool: size 4", x.tool(100, 0, 4, 0), ToolCrib.BAD);
        D.is("tool: family -1", x.tool(100, 0, 1, -1), ToolCrib.BAD);
        D.is("tool: family 10", x.tool(100, 0, 1, 10), ToolCrib.BAD);
        D.is("refused: the edge is free", x.edgeTold(0, 7), ToolCrib.NONE);
        D.is("tool: least", x.tool(20, 1, 1, 0), 0);
        D.is("tool: most", x.tool(300, 0, 3, 9), 1);
        D.is("tool: the edge is in one", x.tool(100, 0, 1, 0), ToolCrib.STATE);
        D.is("tool: bad is named first", x.tool(100, 0, 1, 10), ToolCrib.BAD);
        D.is("count(1)", x.count(1), 2);
    }

    private static void toolsFull() {
        ToolCrib x = new ToolCrib();
        for (int i = 0; i < 11; i++) {
            x.edge(0, 50, 40, 1, 10);
        }
        for (int i = 0; i < 10; i++) {
            D.is("tool " + i, x.tool(100, i, 1, 0), i);
        }
        D.is("tool 10", x.tool(100, 10, 1, 0), ToolCrib.FULL);
        D.is("tool 10: its edge is free", x.edgeTold(10, 7), ToolCrib.NONE);
        D.is("tool 10: state is named first", x.tool(100, 9, 1, 0), ToolCrib.STATE);
        D.is("tool 10: bad is named first", x.tool(100, 11, 1, 0), ToolCrib.BAD);
        D.is("count(1)", x.count(1), 10);
        D.is("toolTold(9, 1)", x.toolTold(9, 1), 9);
        D.is("toolTold(10, 1)", x.toolTold(10, 1), ToolCrib.BAD);
        D.is("measure(10)", x.measure(10), ToolCrib.BAD);
    }

    private static void told() {
        ToolCrib x = new ToolCrib();
        x.edge(0, 50, 40, 1, 10);
        x.edge(0, 55, 40, 1, 10);
        x.tool(120, 1, 2, 7);
        int[] want = {120, 1, 2, 7, 175, 0, ToolCrib.NONE, ToolCrib.NONE};
        for (int what = 0; what < 8; what++) {
            D.is("toolTold(0, " + what + ")", x.toolTold(0, what), want[what]);
        }
        D.is("toolTold(0, 8)", x.toolTold(0, 8), ToolCrib.BAD);
        D.is("toolTold(0, -1)", x.toolTold(0, -1), ToolCrib.BAD);
        D.is("toolTold(1, 0)", x.toolTold(1, 0), ToolCrib.BAD);
        D.is("toolTold(-1, 0)", x.toolTold(-1, 0), ToolCrib.BAD);
        x.machine(1, 4);
        x.machine(1, 5);
        x.measure(0);
        D.is("put", x.put(1, 0, 3), 1);
        D.is("its machine", x.toolTold(0, 6), 1);
        D.is("its place", x.toolTold(0, 7), 3);
        x.take(0);
        D.is("its machine", x.toolTold(0, 6), ToolCrib.NONE);
        D.is("its place", x.toolTold(0, 7), ToolCrib.NONE);
    }

    private static void setter() {
        ToolCrib x = new ToolCrib();
        D.is("off -51", x.setter(-51, 0), ToolCrib.BAD);
        D.is("off 51", x.setter(51, 0), ToolCrib.BAD);
        D.is("drift -21", x.setter(0, -21), ToolCrib.BAD);
        D.is("drift 21", x.setter(0, 21), ToolCrib.BAD);
        D.is("refused: nothing is off", x.calibrate(400), 0);
        D.is("least", x.setter(-50, -20), 1);
        D.is("a master of 400: (400+50)*980/1000 = 441", x.calibrate(400), -41);
        D.is("most", x.setter(50, 20), 1);
        D.is("the offset stays", x.count(7), -41);
        D.is("a master of 400: (400-50)*1020/1000 = 357", x.calibrate(400), 43);
    }

    private static void calibrated() {
        ToolCrib x = new ToolCrib();
        x.setter(3, 7);
        D.is("master 99", x.calibrate(99), ToolCrib.BAD);
        D.is("master 401", x.calibrate(401), ToolCrib.BAD);
        D.is("refused: the offset stays", x.count(7), 0);
        D.is("97*1007/1000 = 97.679", x.calibrate(100), 3);
        D.is("count(7)", x.count(7), 3);
        x.setter(0, 0);
        D.is("nothing is off", x.calibrate(100), 0);
        x.setter(-50, -1);
        D.is("450*999/1000 = 449.55", x.calibrate(400), -49);
    }

    private static void measured() {
        ToolCrib x = new ToolCrib();
        x.edge(0, 10, 1, 1, 10);
        x.tool(20, 0, 1, 0);
        D.is("no such tool", x.measure(1), ToolCrib.BAD);
        D.is("no such tool", x.measure(-1), ToolCrib.BAD);
        D.is("true", x.measure(0), 30);
        x.setter(50, -13);
        D.is("-20*987/1000 = -19.74", x.measure(0), -19);
        D.is("told", x.toolTold(0, 5), -19);
        D.is("350*987/1000 = 345.45", x.calibrate(400), 55);
        D.is("measured stays till it is measured", x.toolTold(0, 5), -19);
        D.is("with the offset", x.measure(0), 36);
        x.setter(20, 5);
        D.is("10*1005/1000 = 10.05, the latest offset", x.measure(0), 65);
        x.machine(1, 4);
        D.is("not as nominal", x.put(0, 0, 0), ToolCrib.STATE);
        x.setter(0, 0);
        x.calibrate(200);
        x.measure(0);
        x.put(0, 0, 0);
        x.setter(1, 0);
        D.is("measured in a magazine", x.measure(0), 29);
    }
}
