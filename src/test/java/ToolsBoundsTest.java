/** Promises 9 to 13: what the document says of their bounds, of the empty and the full, and of refused calls. */
public final class ToolsBoundsTest {
    private static final Due D = new Due("ToolsBoundsTest");
    /** The number that the next TOOL of a busy crib gets, and the EDGE that is free for it. */
    private static final int NEXT = 6, FREE = 6;

    public static void main(String[] args) {
        holders();
        edgesOfTools();
        oneEdgeInOneTool();
        sizes();
        families();
        toolsFull();
        toolTold();
        toolsAtFirst();
        nominalLengths();
        offAndDrift();
        setterAtFirst();
        masters();
        offsets();
        offsetIsTheLatest();
        measureRefused();
        measuredTowardsZero();
        measuredIsNoState();
        D.end();
    }

    /** Promise 9: a holder of a LENGTH 20 .. 300. */
    private static void holders() {
        D.ends("tool: holder", Cribs::busy, (x, n) -> x.tool(n, FREE, 1, 0), Due.at(20, NEXT), Due.at(300, NEXT), ToolCrib.BAD);
        ToolCrib x = Cribs.busy();
        x.tool(300, FREE, 1, 0);
        D.is("its holder", x.toolTold(NEXT, 0), 300);
    }

    /** Promise 9: an EDGE there is; one that is worn, broken or has no corners LEFT is one, too. */
    private static void edgesOfTools() {
        D.outside("tool: EDGE", Cribs::busy, (x, n) -> x.tool(100, n, 1, 0), 0, 6, ToolCrib.BAD);
        D.refused("tool: no EDGES", ToolCrib::new, x -> x.tool(100, 0, 1, 0), ToolCrib.BAD);
        ToolCrib x = new ToolCrib();
        for (int i = 0; i < 24; i++) {
            x.edge(2, 50, 40, 1, 10);
        }
        D.is("tool: the last EDGE", x.tool(100, 23, 1, 0), 0);
        D.is("tool: the first EDGE", x.tool(100, 0, 1, 0), 1);
        D.is("the TOOL of the last EDGE", x.edgeTold(23, 7), 0);
        D.is("the EDGE of the TOOL", x.toolTold(0, 1), 23);
    }

    /** Promise 9: each EDGE in one TOOL at most: STATE, behind BAD. */
    private static void oneEdgeInOneTool() {
        for (int edge = 0; edge < 6; edge++) {
            int e = edge;
            D.refused("tool: the EDGE is in one", Cribs::busy, x -> x.tool(100, e, 1, 0), ToolCrib.STATE);
        }
        D.refused("tool: in one; holder", Cribs::busy, x -> x.tool(19, 0, 1, 0), ToolCrib.BAD);
        D.refused("tool: in one; SIZE", Cribs::busy, x -> x.tool(100, 0, 4, 0), ToolCrib.BAD);
        D.refused("tool: in one; FAMILY", Cribs::busy, x -> x.tool(100, 0, 1, 10), ToolCrib.BAD);
    }

    /** Promise 9: a SIZE of 1 .. 3 places. */
    private static void sizes() {
        D.ends("tool: SIZE", Cribs::busy, (x, n) -> x.tool(100, FREE, n, 0), Due.at(1, NEXT), Due.at(3, NEXT), ToolCrib.BAD);
        ToolCrib x = Cribs.busy();
        x.tool(100, FREE, 3, 0);
        D.is("its SIZE", x.toolTold(NEXT, 2), 3);
    }

    /** Promise 9: a FAMILY of 0 .. 9. */
    private static void families() {
        D.ends("tool: FAMILY", Cribs::busy, (x, n) -> x.tool(100, FREE, 1, n), Due.at(0, NEXT), Due.at(9, NEXT), ToolCrib.BAD);
        ToolCrib x = Cribs.busy();
        x.tool(100, FREE, 1, 9);
        D.is("its FAMILY", x.toolTold(NEXT, 3), 9);
    }

    /** Promise 9: 10 at most, numbered from 0 as they come; BAD, then STATE, then FULL. */
    private static void toolsFull() {
        ToolCrib x = new ToolCrib();
        for (int i = 0; i < 10; i++) {
            x.edge(0, 50, 40, 1, 10);
            D.is("tool: refused ahead of " + i, x.tool(100, i, 0, 0), ToolCrib.BAD);
            D.is("tool " + i, x.tool(20 + i, i, 1, 0), i);
            D.is("count(1)", x.count(1), i + 1);
            D.is("its holder", x.toolTold(i, 0), 20 + i);
        }
        D.refused("tool 10", Cribs::full, y -> y.tool(100, 10, 1, 0), ToolCrib.FULL);
        D.refused("tool 10: the EDGE is in one", Cribs::full, y -> y.tool(100, 9, 1, 0), ToolCrib.STATE);
        D.refused("tool 10: holder", Cribs::full, y -> y.tool(301, 10, 1, 0), ToolCrib.BAD);
        D.refused("tool 10: EDGE", Cribs::full, y -> y.tool(100, 24, 1, 0), ToolCrib.BAD);
        D.refused("tool 10: SIZE", Cribs::full, y -> y.tool(100, 10, 0, 0), ToolCrib.BAD);
        D.refused("tool 10: FAMILY", Cribs::full, y -> y.tool(100, 10, 1, -1), ToolCrib.BAD);
    }

    /** Promise 10: BAD where the TOOL or what is asked is none such. */
    private static void toolTold() {
        D.ends("toolTold: TOOL", Cribs::busy, (x, n) -> x.toolTold(n, 0), Due.at(0, 100), Due.at(5, 105), ToolCrib.BAD);
        D.ends("toolTold: TOOL, full", Cribs::full, (x, n) -> x.toolTold(n, 7), Due.at(0, ToolCrib.NONE), Due.at(9, 15), ToolCrib.BAD);
        D.ends("toolTold: what", Cribs::busy, (x, n) -> x.toolTold(5, n), Due.at(0, 105), Due.at(7, 6), ToolCrib.BAD);
        D.refused("toolTold: no TOOLS", ToolCrib::new, x -> x.toolTold(0, 0), ToolCrib.BAD);
    }

    /** Promise 10: MEASURED 0: never; its MACHINE and place: NONE. */
    private static void toolsAtFirst() {
        ToolCrib x = new ToolCrib();
        x.edge(0, 50, 40, 1, 10);
        x.edge(0, 55, 40, 1, 10);
        x.tool(120, 1, 2, 7);
        int[] want = {120, 1, 2, 7, 175, 0, ToolCrib.NONE, ToolCrib.NONE};
        for (int what = 0; what < 8; what++) {
            D.is("toolTold(0, " + what + ") at first", x.toolTold(0, what), want[what]);
        }
    }

    /** Promise 10: NOMINAL LENGTH: both LENGTHS together, the least and the most there is; a GROUND one's is less. */
    private static void nominalLengths() {
        ToolCrib x = new ToolCrib();
        x.edge(0, 10, 9, 1, 10);
        x.edge(0, 200, 200, 1, 10);
        x.tool(20, 0, 1, 0);
        x.tool(300, 1, 1, 0);
        D.is("the least NOMINAL LENGTH", x.toolTold(0, 4), 30);
        D.is("the most", x.toolTold(1, 4), 500);
        x.grind(0, 1);
        D.is("GROUND", x.toolTold(0, 4), 29);
        x.grind(1, 1);
        D.is("not GROUND", x.toolTold(1, 4), 500);
    }

    /** Promise 11: OFF -50 .. 50, DRIFT -20 .. 20. */
    private static void offAndDrift() {
        D.ends("setter: OFF", Cribs::busy, (x, n) -> x.setter(n, 0), Due.at(-50, 1), Due.at(50, 1), ToolCrib.BAD);
        D.ends("setter: DRIFT", Cribs::busy, (x, n) -> x.setter(0, n), Due.at(-20, 1), Due.at(20, 1), ToolCrib.BAD);
        D.refused("setter: OFF is good, DRIFT isn't", Cribs::busy, x -> x.setter(7, 21), ToolCrib.BAD);
        D.refused("setter: DRIFT is good, OFF isn't", Cribs::busy, x -> x.setter(51, 7), ToolCrib.BAD);
    }

    /** Promise 11: OFF and DRIFT are 0 at first, OFFSET, too. */
    private static void setterAtFirst() {
        ToolCrib x = new ToolCrib();
        D.is("OFFSET", x.count(7), 0);
        D.is("calibrate(400)", x.calibrate(400), 0);
        D.is("calibrate(100)", x.calibrate(100), 0);
    }

    /** Promise 12: a master of LENGTH m, 100 .. 400. */
    private static void masters() {
        D.ends("calibrate, nothing off", ToolCrib::new, ToolCrib::calibrate, Due.at(100, 0), Due.at(400, 0), ToolCrib.BAD);
        D.ends("calibrate, OFF 2 and DRIFT 3", Cribs::busy, ToolCrib::calibrate, Due.at(100, 2), Due.at(400, 1), ToolCrib.BAD);
    }

    private static void offset(int off, int drift, int master, int want) {
        ToolCrib x = new ToolCrib();
        x.setter(off, drift);
        D.is("calibrate(" + master + ") with " + off + ", " + drift, x.calibrate(master), want);
        D.is("count(7)", x.count(7), want);
    }

    /** Promise 12: OFFSET m less r, r cut, at the ends of OFF, DRIFT and m. */
    private static void offsets() {
        offset(-50, -20, 100, 100 - 147);
        offset(-50, -20, 400, 400 - 441);
        offset(-50, 20, 100, 100 - 153);
        offset(-50, 20, 400, 400 - 459);
        offset(50, -20, 100, 100 - 49);
        offset(50, -20, 400, 400 - 343);
        offset(50, 20, 100, 100 - 51);
        offset(50, 20, 400, 400 - 357);
        offset(0, -1, 100, 100 - 99);
        offset(0, -1, 400, 400 - 399);
        offset(0, 2, 400, 0);
        offset(0, 3, 400, -1);
        offset(1, 0, 100, 1);
        offset(-1, 0, 100, -1);
    }

    /** Promise 12: a calibration does not build on the one ahead of it; a refused one leaves OFFSET, setter does, too. */
    private static void offsetIsTheLatest() {
        ToolCrib x = new ToolCrib();
        x.setter(7, 0);
        for (int i = 0; i < 3; i++) {
            D.is("calibrate", x.calibrate(200), 7);
            D.is("refused", x.calibrate(401), ToolCrib.BAD);
            D.is("count(7)", x.count(7), 7);
        }
        x.setter(-3, 0);
        D.is("setter leaves OFFSET", x.count(7), 7);
        D.is("calibrate", x.calibrate(200), -3);
    }

    /** Promise 13: BAD: no such TOOL. */
    private static void measureRefused() {
        D.ends("measure: TOOL", Cribs::busy, ToolCrib::measure, Due.at(0, 200), Due.at(5, 135), ToolCrib.BAD);
        D.ends("measure: TOOL, full", Cribs::full, ToolCrib::measure, Due.at(0, 200), Due.at(9, 200), ToolCrib.BAD);
        D.refused("measure: no TOOLS", ToolCrib::new, x -> x.measure(0), ToolCrib.BAD);
    }

    private static void measured(int holder, int edge, int off, int drift, int want) {
        ToolCrib x = new ToolCrib();
        x.edge(0, edge, 1, 1, 10);
        x.tool(holder, 0, 1, 0);
        x.setter(off, drift);
        String told = "measure " + (holder + edge) + " with " + off + ", " + drift;
        D.is(told, x.measure(0), want);
        D.is(told + ", told", x.toolTold(0, 5), want);
        x.calibrate(100);
        D.is(told + ", the OFFSET does not come later", x.toolTold(0, 5), want);
        D.is(told + ", with the OFFSET", x.measure(0), want + x.count(7));
    }

    /** Promise 13: what the SETTER READS is cut towards 0, from below 0 and from above it; the least and the most there is. */
    private static void measuredTowardsZero() {
        measured(20, 10, 50, 0, -20);
        measured(20, 10, 50, -20, -19);
        measured(20, 10, 50, 20, -20);
        measured(20, 29, 50, 20, -1);
        measured(20, 29, 50, -1, 0);
        measured(20, 30, 50, 20, 0);
        measured(20, 31, 50, -1, 0);
        measured(20, 31, 50, 20, 1);
        measured(20, 32, 50, -1, 1);
        measured(300, 200, -50, 20, 561);
        measured(300, 200, -50, -20, 539);
        measured(300, 199, 0, 1, 499);
        measured(300, 199, 0, -1, 498);
    }

    /** Promise 13: a TOOL is MEASURED in a magazine and out of it, with a broken EDGE, too. */
    private static void measuredIsNoState() {
        ToolCrib x = Cribs.busy();
        D.is("in none", x.measure(2), 152);
        D.is("in one, broken", x.measure(4), 184);
        D.is("worn", x.measure(3), 193);
        D.is("it stays in its magazine", x.toolTold(4, 6), 0);
        D.is("another stays never MEASURED", x.toolTold(5, 5), 0);
    }
}
