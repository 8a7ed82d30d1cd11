/** Promises 2 to 8 and 31 with ordinary numbers; their bounds are in EdgesBoundsTest. */
public final class EdgesTest {
    private static final Due D = new Due("EdgesTest");

    public static void main(String[] args) {
        told();
        usedAsFractions();
        wear();
        shares();
        turned();
        ground();
        trail();
        taken();
        D.end();
    }

    /** Promises 2 and 3: two EDGES, and the TOOLS they are in. */
    private static void told() {
        ToolCrib x = new ToolCrib();
        D.is("edge", x.edge(5, 60, 33, 4, 77), 0);
        D.is("edge", x.edge(0, 61, 34, 2, 78), 1);
        x.tool(50, 1, 1, 0);
        x.tool(50, 0, 1, 0);
        int[][] want = {{5, 60, 33, 3, 77, 0, 0, 1}, {0, 61, 34, 0, 78, 0, 0, 0}};
        for (int e = 0; e < 2; e++) {
            for (int what = 0; what < 8; what++) {
                D.is("edgeTold(" + e + ", " + what + ")", x.edgeTold(e, what), want[e][what]);
            }
        }
    }

    private static void used(String told, ToolCrib x, long above, long below) {
        D.is(told + ": above", x.used(0, 0), above);
        D.is(told + ": below", x.used(0, 1), below);
    }

    /** Promise 4: SHARES that come together, in lowest terms. */
    private static void usedAsFractions() {
        ToolCrib x = Cribs.cutting(0, 1, 30, 7);
        D.is("cut", x.cut(0, 0, 10, 9), 0);
        used("630 by 3000", x, 21, 100);
        D.is("cut", x.cut(0, 0, 3, 20), 0);
        used("1050 by 3000", x, 7, 20);
        D.is("cut", x.cut(0, 0, 99, 20), 0);
        used("14910 by 3000", x, 497, 100);
        D.is("it is worn", x.edgeTold(0, 5), 1);
        D.is("cuts of its corner", x.edgeTold(0, 6), 112);
        D.is("no more cuts", x.cut(0, 0, 1, 1), ToolCrib.STATE);
        D.is("ground", x.grind(0, 1), 99);
        used("0 then", x, 0, 1);
    }

    /** Promise 5: WEAR of each KIND. */
    private static void wear() {
        ToolCrib x = new ToolCrib();
        int[] want = {21, 21 + 3, 24 - 7, 42, 42 + 7, 24 + 21};
        for (int kind = 0; kind < 6; kind++) {
            x.edge(kind, 50, 40, 1, 10);
            D.is("wear of kind " + kind, x.wear(kind, 7, 3), want[kind]);
        }
    }

    /** Promises 4 and 23: a SHARE is c times WEAR by 100 times LIFE. */
    private static void shares() {
        int[] want = {60, 63, 43, 120, 140, 123};
        for (int kind = 0; kind < 6; kind++) {
            ToolCrib x = Cribs.cutting(kind, 3, 999, 20);
            x.cut(0, 0, 2, 3);
            D.is("a cut's share, kind " + kind, x.used(0, 0) * 99900 / x.used(0, 1), 2 * want[kind]);
        }
    }

    /** Promise 6: a worn one is good again, a good one loses its USED, too. */
    private static void turned() {
        ToolCrib x = Cribs.cutting(1, 3, 1, 5);
        D.is("cut", x.cut(0, 0, 20, 4), 0);
        D.is("worn", x.edgeTold(0, 5), 1);
        D.is("turn", x.turn(0), 1);
        D.is("good again", x.edgeTold(0, 5), 0);
        D.is("no cuts yet", x.edgeTold(0, 6), 0);
        used("used 0", x, 0, 1);
        D.is("cut", x.cut(0, 0, 1, 4), 0);
        D.is("turn a good one", x.turn(0), 0);
        used("used 0", x, 0, 1);
        D.is("left", x.edgeTold(0, 3), 0);
    }

    /** Promise 7: LENGTH and NOMINAL LENGTH are less, MEASURED stays; its corner has no cuts yet. */
    private static void ground() {
        ToolCrib x = Cribs.cutting(3, 1, 1, 5);
        D.is("cut", x.cut(0, 0, 20, 4), 0);
        D.is("worn", x.edgeTold(0, 5), 1);
        D.is("grind", x.grind(0, 7), 93);
        D.is("good again", x.edgeTold(0, 5), 0);
        D.is("no cuts yet", x.edgeTold(0, 6), 0);
        used("used 0", x, 0, 1);
        D.is("nominal follows", x.toolTold(0, 4), 193);
        D.is("measured stays", x.toolTold(0, 5), 200);
        D.is("grind a good one", x.grind(0, 2), 91);
    }

    /** Promise 8: a TOOL that moves from one MACHINE to another. */
    private static void trail() {
        ToolCrib x = Cribs.cutting(0, 1, 999, 5);
        x.machine(4, 6);
        x.cut(0, 0, 3, 3);
        x.cut(0, 0, 3, 3);
        x.take(0);
        x.put(1, 0, 2);
        x.cut(1, 0, 3, 3);
        D.is("trail(0, 0)", x.trail(0, 0), 0);
        D.is("trail(0, 1)", x.trail(0, 1), 1);
        D.is("trail(0, 2)", x.trail(0, 2), ToolCrib.NONE);
    }

    /** Promise 31: each KIND taken for each KIND. */
    private static void taken() {
        ToolCrib x = new ToolCrib();
        for (int kind = 0; kind < 6; kind++) {
            x.edge(kind, 50 + kind, 40, 1, 10);
        }
        boolean[][] under = {
            {true, false, false, false, false, false},
            {true, true, false, false, false, false},
            {true, true, true, false, false, false},
            {true, false, false, true, false, false},
            {true, false, false, true, true, false},
            {true, true, false, false, false, true},
        };
        for (int e = 0; e < 6; e++) {
            for (int k = 0; k < 6; k++) {
                D.is("taken(" + e + ", " + k + ")", x.taken(e, k), under[e][k] ? 50 + e : -13);
            }
        }
    }
}
