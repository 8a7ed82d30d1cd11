/** Promises 9 to 13 with ordinary numbers; their bounds are in ToolsBoundsTest. */
public final class ToolsTest {
    private static final Due D = new Due("ToolsTest");

    public static void main(String[] args) {
        told();
        moved();
        calibrated();
        measured();
        D.end();
    }

    /** Promises 9 and 10: what a TOOL was put together from. */
    private static void told() {
        ToolCrib x = new ToolCrib();
        x.edge(0, 50, 40, 1, 10);
        x.edge(3, 55, 40, 1, 10);
        D.is("tool", x.tool(120, 1, 2, 7), 0);
        D.is("tool", x.tool(130, 0, 3, 7), 1);
        int[][] want = {{120, 1, 2, 7, 175, 0}, {130, 0, 3, 7, 180, 0}};
        for (int t = 0; t < 2; t++) {
            for (int what = 0; what < 6; what++) {
                D.is("toolTold(" + t + ", " + what + ")", x.toolTold(t, what), want[t][what]);
            }
        }
    }

    /** Promise 10: its MACHINE and its place. */
    private static void moved() {
        ToolCrib x = Cribs.easy();
        x.edge(0, 50, 40, 1, 10);
        x.tool(120, 0, 2, 7);
        x.machine(1, 4);
        x.machine(1, 5);
        D.is("put", x.put(1, 0, 3), 1);
        D.is("its machine", x.toolTold(0, 6), 1);
        D.is("its place", x.toolTold(0, 7), 3);
        x.take(0);
        D.is("its machine", x.toolTold(0, 6), ToolCrib.NONE);
        D.is("its place", x.toolTold(0, 7), ToolCrib.NONE);
    }

    /** Promises 11 and 12: OFFSET is what the SETTER tells too little, with what is cut. */
    private static void calibrated() {
        ToolCrib x = new ToolCrib();
        x.setter(3, 7);
        D.is("147*1007/1000 = 148.029", x.calibrate(150), 2);
        D.is("count(7)", x.count(7), 2);
        x.setter(0, 0);
        D.is("nothing is off", x.calibrate(150), 0);
        x.setter(-50, -1);
        D.is("250*999/1000 = 249.75", x.calibrate(200), -49);
    }

    /** Promise 13: what is MEASURED stays till it is MEASURED again, with the latest OFFSET. */
    private static void measured() {
        ToolCrib x = new ToolCrib();
        x.edge(0, 60, 1, 1, 10);
        x.tool(40, 0, 1, 0);
        D.is("true", x.measure(0), 100);
        x.setter(30, -13);
        D.is("70*987/1000 = 69.09", x.measure(0), 69);
        D.is("170*987/1000 = 167.79", x.calibrate(200), 33);
        D.is("measured stays till it is measured", x.toolTold(0, 5), 69);
        D.is("with the offset", x.measure(0), 102);
        x.setter(20, 5);
        D.is("80*1005/1000 = 80.4, the latest offset", x.measure(0), 113);
        x.grind(0, 10);
        D.is("70*1005/1000 = 70.35", x.measure(0), 103);
        D.is("told", x.toolTold(0, 5), 103);
    }
}
