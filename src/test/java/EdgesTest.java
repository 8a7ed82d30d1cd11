/** Promises 2 to 8 and 31: edge, edgeTold, used, wear, turn, grind, trail, taken. */
public final class EdgesTest {
    private static final Due D = new Due("EdgesTest");

    public static void main(String[] args) {
        edges();
        edgesFull();
        told();
        usedAsFractions();
        wear();
        turned();
        ground();
        brokenOnes();
        trails();
        taken();
        D.end();
    }

    private static void edges() {
        ToolCrib x = new ToolCrib();
        D.is("edge: kind -1", x.edge(-1, 50, 40, 1, 10), ToolCrib.BAD);
        D.is("edge: kind 6", x.edge(6, 50, 40, 1, 10), ToolCrib.BAD);
        D.is("edge: length 9", x.edge(0, 9, 1, 1, 10), ToolCrib.BAD);
        D.is("edge: length 201", x.edge(0, 201, 1, 1, 10), ToolCrib.BAD);
        D.is("edge: least 0", x.edge(0, 50, 0, 1, 10), ToolCrib.BAD);
        D.is("edge: least 51", x.edge(0, 50, 51, 1, 10), ToolCrib.BAD);
        D.is("edge: life 0", x.edge(0, 50, 40, 1, 0), ToolCrib.BAD);
        D.is("edge: life 1000", x.edge(0, 50, 40, 1, 1000), ToolCrib.BAD);
        for (int kind : new int[] {1, 2, 5}) {
            D.is("edge: corners 0", x.edge(kind, 50, 40, 0, 10), ToolCrib.BAD);
            D.is("edge: corners 9", x.edge(kind, 50, 40, 9, 10), ToolCrib.BAD);
        }
        D.is("count(0)", x.count(0), 0);
        D.is("edge: least of all", x.edge(0, 10, 1, -7, 1), 0);
        D.is("edge: most of all", x.edge(1, 200, 200, 8, 999), 1);
        D.is("edge: drill's corners do not matter", x.edge(3, 50, 50, 99, 10), 2);
        D.is("edge: step's corners do not matter", x.edge(4, 50, 50, 0, 10), 3);
        D.is("edge: round", x.edge(2, 50, 50, 1, 10), 4);
        D.is("edge: blade", x.edge(5, 50, 50, 2, 10), 5);
        int[] left = {0, 7, 0, 0, 0, 1};
        for (int e = 0; e < left.length; e++) {
            D.is("corners left of " + e, x.edgeTold(e, 3), left[e]);
        }
    }

    private static void edgesFull() {
        ToolCrib x = new ToolCrib();
        for (int i = 0; i < 24; i++) {
            D.is("edge " + i, x.edge(0, 50, 40, 1, 10), i);
        }
        D.is("edge 24", x.edge(0, 50, 40, 1, 10), ToolCrib.FULL);
        D.is("edge 24, bad", x.edge(0, 50, 40, 1, 0), ToolCrib.BAD);
        D.is("count(0)", x.count(0), 24);
        D.is("edgeTold(23, 1)", x.edgeTold(23, 1), 50);
        D.is("edgeTold(24, 1)", x.edgeTold(24, 1), ToolCrib.BAD);
    }

    private static void told() {
        ToolCrib x = new ToolCrib();
        x.edge(5, 60, 33, 4, 77);
        int[] want = {5, 60, 33, 3, 77, 0, 0, ToolCrib.NONE};
        for (int what = 0; what < 8; what++) {
            D.is("edgeTold(0, " + what + ")", x.edgeTold(0, what), want[what]);
        }
        D.is("edgeTold(0, 8)", x.edgeTold(0, 8), ToolCrib.BAD);
        D.is("edgeTold(0, -1)", x.edgeTold(0, -1), ToolCrib.BAD);
        D.is("edgeTold(1, 0)", x.edgeTold(1, 0), ToolCrib.BAD);
        D.is("edgeTold(-1, 0)", x.edgeTold(-1, 0), ToolCrib.BAD);
        x.edge(0, 60, 33, 1, 77);
        x.tool(50, 1, 1, 0);
        x.tool(50, 0, 1, 0);
        D.is("edgeTold(0, 7)", x.edgeTold(0, 7), 1);
        D.is("edgeTold(1, 7)", x.edgeTold(1, 7), 0);
    }

    /** A crib with a tool of FAMILY 0 on edge 0, in machine 0 of a speed; nothing is worn or broken by its texts. */
    private static ToolCrib cutting(int kind, int corners, int life, int speed) {
        ToolCrib x = Due.ruled("0", "0", "1");
        x.edge(kind, 100, 90, corners, life);
        x.tool(100, 0, 1, 0);
        x.machine(speed, 4);
        x.put(0, 0, 0);
        return x;
    }

    private static void usedAsFractions() {
        ToolCrib x = cutting(0, 1, 30, 7);
        D.is("used(0, 0) at first", x.used(0, 0), 0);
        D.is("used(0, 1) at first", x.used(0, 1), 1);
        D.is("used(0, 2)", x.used(0, 2), ToolCrib.NO);
        D.is("used(0, -1)", x.used(0, -1), ToolCrib.NO);
        D.is("used(1, 0)", x.used(1, 0), ToolCrib.NO);
        D.is("used(-1, 1)", x.used(-1, 1), ToolCrib.NO);
        D.is("cut", x.cut(0, 0, 10, 9), 0);
        D.is("630 by 3000: above", x.used(0, 0), 21);
        D.is("630 by 3000: below", x.used(0, 1), 100);
        D.is("cut", x.cut(0, 0, 3, 20), 0);
        D.is("1050 by 3000: above", x.used(0, 0), 7);
        D.is("1050 by 3000: below", x.used(0, 1), 20);
        D.is("cut", x.cut(0, 0, 99, 20), 0);
        D.is("14910 by 3000: above", x.used(0, 0), 497);
        D.is("14910 by 3000: below", x.used(0, 1), 100);
        D.is("it is worn", x.edgeTold(0, 5), 1);
        D.is("cuts of its corner", x.edgeTold(0, 6), 112);
        D.is("no more cuts", x.cut(0, 0, 1, 1), ToolCrib.STATE);
        D.is("ground", x.grind(0, 1), 99);
        D.is("0 then: above", x.used(0, 0), 0);
        D.is("0 then: below", x.used(0, 1), 1);
    }

    private static void wear() {
        ToolCrib x = new ToolCrib();
        for (int kind = 0; kind < 6; kind++) {
            x.edge(kind, 50, 40, 1, 10);
        }
        int[][] want = {
            {20 * 3, 60 + 3, 63 - 20, 120, 120 + 20, 63 + 60},
            {1, 2, 1, 2, 3, 3},
            {400, 420, 400, 800, 820, 820},
        };
        int[][] at = {{20, 3}, {1, 1}, {20, 20}};
        for (int i = 0; i < at.length; i++) {
            for (int kind = 0; kind < 6; kind++) {
                D.is("wear of kind " + kind, x.wear(kind, at[i][0], at[i][1]), want[i][kind]);
            }
        }
        D.is("wear: speed 0", x.wear(0, 0, 1), ToolCrib.BAD);
        D.is("wear: speed 21", x.wear(0, 21, 1), ToolCrib.BAD);
        D.is("wear: stuff 0", x.wear(0, 1, 0), ToolCrib.BAD);
        D.is("wear: stuff 21", x.wear(0, 1, 21), ToolCrib.BAD);
        D.is("wear: no such edge", x.wear(6, 1, 1), ToolCrib.BAD);
        D.is("wear: no such edge", x.wear(-1, 1, 1), ToolCrib.BAD);
        for (int kind = 0; kind < 6; kind++) {
            ToolCrib y = cutting(kind, 3, 999, 20);
            y.cut(0, 0, 1, 3);
            D.is("a cut's share, kind " + kind, y.used(0, 0) * 99900 / y.used(0, 1), want[0][kind]);
        }
    }

    private static void turned() {
        ToolCrib x = cutting(1, 3, 1, 5);
        D.is("turn: no such edge", x.turn(1), ToolCrib.BAD);
        D.is("turn: no such edge", x.turn(-1), ToolCrib.BAD);
        D.is("cut", x.cut(0, 0, 20, 4), 0);
        D.is("worn", x.edgeTold(0, 5), 1);
        D.is("turn", x.turn(0), 1);
        D.is("good again", x.edgeTold(0, 5), 0);
        D.is("no cuts yet", x.edgeTold(0, 6), 0);
        D.is("used 0", x.used(0, 0), 0);
        D.is("used 0", x.used(0, 1), 1);
        D.is("left", x.edgeTold(0, 3), 1);
        D.is("turn a good one", x.turn(0), 0);
        D.is("cut", x.cut(0, 0, 1, 4), 0);
        D.is("turn: none is left", x.turn(0), ToolCrib.STATE);
        D.is("refused: the cut stays", x.edgeTold(0, 6), 1);
        D.is("refused: left stays", x.edgeTold(0, 3), 0);
        x.edge(2, 50, 40, 2, 10);
        x.edge(5, 50, 40, 2, 10);
        x.edge(0, 50, 40, 2, 10);
        x.edge(3, 50, 40, 2, 10);
        x.edge(4, 50, 40, 2, 10);
        D.is("turn a round", x.turn(1), 0);
        D.is("turn a blade", x.turn(2), 0);
        D.is("turn an edge", x.turn(3), -13);
        D.is("turn a drill", x.turn(4), -13);
        D.is("turn a step", x.turn(5), -13);
    }

    private static void ground() {
        ToolCrib x = cutting(3, 1, 1, 5);
        x.measure(0);
        D.is("cut", x.cut(0, 0, 20, 4), 0);
        D.is("worn", x.edgeTold(0, 5), 1);
        D.is("grind: n 0", x.grind(0, 0), ToolCrib.BAD);
        D.is("grind: n 51", x.grind(0, 51), ToolCrib.BAD);
        D.is("grind: no such edge", x.grind(1, 1), ToolCrib.BAD);
        D.is("grind: below least", x.grind(0, 11), ToolCrib.STATE);
        D.is("refused: it stays worn", x.edgeTold(0, 5), 1);
        D.is("refused: it stays used", x.edgeTold(0, 6), 20);
        D.is("grind to the least", x.grind(0, 10), 90);
        D.is("good again", x.edgeTold(0, 5), 0);
        D.is("no cuts yet", x.edgeTold(0, 6), 0);
        D.is("used 0", x.used(0, 0), 0);
        D.is("nominal follows", x.toolTold(0, 4), 190);
        D.is("measured stays", x.toolTold(0, 5), 200);
        D.is("grind once more", x.grind(0, 1), ToolCrib.STATE);
        x.edge(1, 50, 1, 2, 10);
        x.edge(2, 50, 1, 2, 10);
        x.edge(5, 50, 1, 2, 10);
        x.edge(0, 51, 1, 2, 10);
        x.edge(4, 50, 1, 2, 10);
        D.is("grind an insert", x.grind(1, 1), -13);
        D.is("grind a round", x.grind(2, 50), -13);
        D.is("grind a blade", x.grind(3, 1), -13);
        D.is("grind an insert by 0", x.grind(1, 0), ToolCrib.BAD);
        D.is("grind an edge by 50", x.grind(4, 50), 1);
        D.is("grind a step", x.grind(5, 2), 48);
        D.is("grind: no such edge", x.grind(-1, 2), ToolCrib.BAD);
    }

    private static void brokenOnes() {
        ToolCrib x = Due.ruled("0", "cuts = 3", "1");
        x.edge(1, 50, 40, 4, 999);
        x.edge(0, 50, 40, 1, 999);
        x.tool(100, 0, 1, 0);
        x.tool(100, 1, 1, 1);
        x.machine(1, 4);
        x.put(0, 0, 0);
        x.put(0, 1, 1);
        D.is("cut", x.cut(0, 0, 3, 1), 0);
        D.is("cut", x.cut(0, 1, 3, 1), 1);
        D.is("broken", x.edgeTold(0, 5), 2);
        D.is("broken", x.edgeTold(1, 5), 2);
        D.is("turn a broken one", x.turn(0), ToolCrib.STATE);
        D.is("grind a broken one", x.grind(1, 1), ToolCrib.STATE);
        D.is("turn: the sort is named first", x.turn(1), -13);
        D.is("grind: the sort is named first", x.grind(0, 1), -13);
        D.is("refused: left stays", x.edgeTold(0, 3), 3);
        D.is("refused: length stays", x.edgeTold(1, 1), 50);
        D.is("refused: cuts stay", x.edgeTold(1, 6), 3);
    }

    private static void trails() {
        ToolCrib x = Due.ruled("0", "0", "1");
        x.edge(0, 100, 50, 1, 999);
        x.tool(100, 0, 1, 0);
        x.machine(1, 4);
        x.machine(1, 4);
        x.machine(1, 4);
        D.is("trail: empty", x.trail(0, 0), ToolCrib.NONE);
        D.is("trail: no such edge", x.trail(1, 0), ToolCrib.BAD);
        D.is("trail: no such edge", x.trail(-1, 0), ToolCrib.BAD);
        int[] on = {0, 0, 1, 2, 0, 1, 1, 2, 0, 2, 1};
        for (int m : on) {
            x.put(m, 0, 0);
            x.cut(m, 0, 1, 1);
            x.take(0);
        }
        x.put(0, 0, 0);
        x.take(0);
        x.grind(0, 1);
        int[] kept = {1, 2, 0, 1, 2, 0, 2, 1};
        for (int i = 0; i < 8; i++) {
            D.is("trail(0, " + i + ")", x.trail(0, i), kept[i]);
        }
        D.is("trail(0, 8)", x.trail(0, 8), ToolCrib.NONE);
        D.is("trail(0, -1)", x.trail(0, -1), ToolCrib.NONE);
        D.is("trail(0, least)", x.trail(0, Integer.MIN_VALUE), ToolCrib.NONE);
    }

    private static void taken() {
        ToolCrib x = new ToolCrib();
        for (int kind = 0; kind < 6; kind++) {
            x.edge(kind, 50 + kind, 40, 1, 10);
        }
        boolean[][] under = {
            {true, false, false, false, false, false},
            {true, true, false, false, false, false},
            {true, true, true, false, false, false},
            {true, false, false, true, false, false},
            {true, false, false, true, true, false},
            {true, true, false, false, false, true},
        };
        for (int e = 0; e < 6; e++) {
            for (int k = 0; k < 6; k++) {
                D.is("taken(" + e + ", " + k + ")", x.taken(e, k), under[e][k] ? 50 + e : -13);
            }
        }
        D.is("taken(0, 6)", x.taken(0, 6), ToolCrib.BAD);
        D.is("taken(0, -1)", x.taken(0, -1), ToolCrib.BAD);
        D.is("taken(9, 6)", x.taken(9, 6), ToolCrib.BAD);
        D.is("taken(6, 0)", x.taken(6, 0), -11);
        D.is("taken(-1, 5)", x.taken(-1, 5), -11);
    }
}
