/** Promises 2 to 8 and 31: what the document says of their bounds, of the empty and the full, and of refused calls. */
public final class EdgesBoundsTest {
    private static final Due D = new Due("EdgesBoundsTest");
    /** The number that the next EDGE of a busy crib gets. */
    private static final int NEXT = 7;
    private static final int[] CORNERED = {1, 2, 5}, PLAIN = {0, 3, 4};

    public static void main(String[] args) {
        kinds();
        lengths();
        leastLengths();
        corners();
        cornersThatDoNotMatter();
        lives();
        edgesAtFirst();
        edgesFull();
        edgeTold();
        usedRefused();
        usedInLowestTerms();
        wear();
        roundWearsAtLeastOne();
        turnedTillNoneIsLeft();
        turnRefused();
        turnWorn();
        grindByOneToFifty();
        grindToLeast();
        grindRefused();
        trailEmpty();
        trailKeepsEight();
        trailFollowsItselfNot();
        trailRefused();
        takenKinds();
        takenRefused();
        D.end();
    }

    /** Promise 2: KIND 0 .. 5. */
    private static void kinds() {
        D.ends("edge: KIND", Cribs::busy, (x, n) -> x.edge(n, 50, 40, 1, 10), Due.at(0, NEXT), Due.at(5, NEXT), ToolCrib.BAD);
        for (int kind = 0; kind < 6; kind++) {
            ToolCrib x = new ToolCrib();
            D.is("edge", x.edge(kind, 50, 40, 1, 10), 0);
            D.is("its KIND", x.edgeTold(0, 0), kind);
        }
    }

    /** Promise 2: LENGTH 10 .. 200. */
    private static void lengths() {
        D.ends("edge: LENGTH", Cribs::busy, (x, n) -> x.edge(0, n, 1, 1, 10), Due.at(10, NEXT), Due.at(200, NEXT), ToolCrib.BAD);
        ToolCrib x = new ToolCrib();
        x.edge(0, 10, 1, 1, 10);
        x.edge(0, 200, 1, 1, 10);
        D.is("the least LENGTH there is", x.edgeTold(0, 1), 10);
        D.is("the most", x.edgeTold(1, 1), 200);
    }

    /** Promise 2: LEAST LENGTH 1 .. LENGTH. */
    private static void leastLengths() {
        for (int length : new int[] {10, 73, 200}) {
            D.ends("edge: LEAST of " + length, Cribs::busy, (x, n) -> x.edge(3, length, n, 1, 10),
                Due.at(1, NEXT), Due.at(length, NEXT), ToolCrib.BAD);
            ToolCrib x = new ToolCrib();
            x.edge(0, length, 1, 1, 10);
            x.edge(0, length, length, 1, 10);
            D.is("LEAST LENGTH 1", x.edgeTold(0, 2), 1);
            D.is("LEAST LENGTH as LENGTH", x.edgeTold(1, 2), length);
        }
    }

    /** Promise 2: CORNERS 1 .. 8, of INSERTS and those under them. */
    private static void corners() {
        for (int kind : CORNERED) {
            D.ends("edge: CORNERS of KIND " + kind, Cribs::busy, (x, n) -> x.edge(kind, 50, 40, n, 10),
                Due.at(1, NEXT), Due.at(8, NEXT), ToolCrib.BAD);
            for (int corners = 1; corners <= 8; corners++) {
                ToolCrib x = new ToolCrib();
                x.edge(kind, 50, 40, corners, 10);
                D.is("LEFT of CORNERS", x.edgeTold(0, 3), corners - 1);
            }
        }
    }

    /** Promise 2: CORNERS of the others: else 1, what is told does not matter. */
    private static void cornersThatDoNotMatter() {
        for (int kind : PLAIN) {
            for (int corners : new int[] {Integer.MIN_VALUE, -1, 0, 1, 2, 8, 9, Integer.MAX_VALUE}) {
                ToolCrib x = new ToolCrib();
                D.is("edge with CORNERS " + corners, x.edge(kind, 50, 40, corners, 10), 0);
                D.is("LEFT is 0", x.edgeTold(0, 3), 0);
            }
        }
    }

    /** Promise 2: LIFE 1 .. 999. */
    private static void lives() {
        for (int kind = 0; kind < 6; kind++) {
            int k = kind;
            D.ends("edge: LIFE", Cribs::busy, (x, n) -> x.edge(k, 50, 40, 1, n), Due.at(1, NEXT), Due.at(999, NEXT), ToolCrib.BAD);
        }
        ToolCrib x = new ToolCrib();
        x.edge(0, 50, 40, 1, 1);
        x.edge(0, 50, 40, 1, 999);
        D.is("the least LIFE", x.edgeTold(0, 4), 1);
        D.is("the most", x.edgeTold(1, 4), 999);
    }

    /** Promise 2: USED 0 at first, corners LEFT one less than CORNERS, STATE good; no cuts, no TOOL. */
    private static void edgesAtFirst() {
        for (int kind = 0; kind < 6; kind++) {
            ToolCrib x = new ToolCrib();
            x.edge(kind, 60, 33, 4, 77);
            int[] want = {kind, 60, 33, kind == 1 || kind == 2 || kind == 5 ? 3 : 0, 77, 0, 0, ToolCrib.NONE};
            for (int what = 0; what < 8; what++) {
                D.is("edgeTold(0, " + what + ") at first", x.edgeTold(0, what), want[what]);
            }
            D.is("USED, above the line", x.used(0, 0), 0);
            D.is("USED, below it", x.used(0, 1), 1);
        }
    }

    /** Promise 2: 24 at most, numbered from 0 as they come; a refused one takes no number; BAD ahead of FULL. */
    private static void edgesFull() {
        ToolCrib x = new ToolCrib();
        for (int i = 0; i < 24; i++) {
            D.is("edge: refused ahead of " + i, x.edge(0, 50, 40, 1, 0), ToolCrib.BAD);
            D.is("edge " + i, x.edge(0, 50, 40, 1, 10 + i), i);
            D.is("count(0)", x.count(0), i + 1);
            D.is("its LIFE", x.edgeTold(i, 4), 10 + i);
        }
        D.refused("edge 24", Cribs::full, y -> y.edge(0, 50, 40, 1, 10), ToolCrib.FULL);
        D.refused("edge 24, an INSERT", Cribs::full, y -> y.edge(1, 50, 40, 1, 10), ToolCrib.FULL);
        D.refused("edge 24, KIND", Cribs::full, y -> y.edge(6, 50, 40, 1, 10), ToolCrib.BAD);
        D.refused("edge 24, LENGTH", Cribs::full, y -> y.edge(0, 9, 4, 1, 10), ToolCrib.BAD);
        D.refused("edge 24, LEAST", Cribs::full, y -> y.edge(0, 50, 51, 1, 10), ToolCrib.BAD);
        D.refused("edge 24, CORNERS", Cribs::full, y -> y.edge(1, 50, 40, 9, 10), ToolCrib.BAD);
        D.refused("edge 24, LIFE", Cribs::full, y -> y.edge(0, 50, 40, 1, 1000), ToolCrib.BAD);
    }

    /** Promise 3: BAD where the EDGE or what is asked is none such; without EDGES every number is. */
    private static void edgeTold() {
        D.ends("edgeTold: EDGE", Cribs::busy, (x, n) -> x.edgeTold(n, 0), Due.at(0, 0), Due.at(6, 0), ToolCrib.BAD);
        D.ends("edgeTold: EDGE, full", Cribs::full, (x, n) -> x.edgeTold(n, 0), Due.at(0, 0), Due.at(23, 5), ToolCrib.BAD);
        D.ends("edgeTold: what", Cribs::busy, (x, n) -> x.edgeTold(5, n), Due.at(0, 5), Due.at(7, 5), ToolCrib.BAD);
        D.refused("edgeTold: no EDGES", ToolCrib::new, x -> x.edgeTold(0, 0), ToolCrib.BAD);
        D.is("its TOOL: NONE", Cribs.busy().edgeTold(6, 7), ToolCrib.NONE);
        D.is("its TOOL: the last", Cribs.full().edgeTold(9, 7), 9);
    }

    /** Promise 4: what 0, 1; NO: none such. */
    private static void usedRefused() {
        D.ends("used: EDGE", Cribs::busy, (x, n) -> x.used(n, 1), Due.at(0, 2775), Due.at(6, 1), ToolCrib.NO);
        D.ends("used: EDGE, full", Cribs::full, (x, n) -> x.used(n, 0), Due.at(0, 0), Due.at(23, 0), ToolCrib.NO);
        D.ends("used: what", Cribs::busy, (x, n) -> x.used(6, n), Due.at(0, 0), Due.at(1, 1), ToolCrib.NO);
        D.refused("used: no EDGES", ToolCrib::new, x -> x.used(0, 0), ToolCrib.NO);
    }

    private static void used(String told, ToolCrib x, long above, long below) {
        D.is("USED " + told + ", above the line", x.used(0, 0), above);
        D.is("USED " + told + ", below it", x.used(0, 1), below);
    }

    /** Promise 4: in lowest terms, below the line above 0: of 0, of 1, below and above 1, the least and the most there is. */
    private static void usedInLowestTerms() {
        ToolCrib x = Cribs.cutting(0, 1, 999, 1);
        used("0", x, 0, 1);
        x.cut(0, 0, 1, 1);
        used("the least above 0", x, 1, 99900);
        x.cut(0, 0, 5, 1);
        used("6 by 99900", x, 1, 16650);
        ToolCrib y = Cribs.cutting(0, 1, 4, 4);
        y.cut(0, 0, 99, 1);
        used("396 by 400", y, 99, 100);
        y.cut(0, 0, 1, 1);
        used("400 by 400", y, 1, 1);
        y.grind(0, 1);
        used("0 again", y, 0, 1);
        ToolCrib z = Cribs.cutting(5, 1, 1, 20);
        z.cut(0, 0, 99, 20);
        used("81180 by 100", z, 4059, 5);
        ToolCrib w = Cribs.cutting(0, 1, 1, 20);
        w.cut(0, 0, 10, 20);
        used("4000 by 100, whole", w, 40, 1);
    }

    /** Promise 5: SPEED 1 .. 20, hardness 1 .. 20, of any EDGE there is. */
    private static void wear() {
        int[][] corners = {{1, 1}, {20, 1}, {1, 20}, {20, 20}};
        int[][] want = {{1, 20, 20, 400}, {2, 21, 40, 420}, {1, 1, 39, 400}, {2, 40, 40, 800}, {3, 60, 41, 820}, {3, 41, 60, 820}};
        for (int kind = 0; kind < 6; kind++) {
            for (int i = 0; i < corners.length; i++) {
                D.is("wear of KIND " + kind, Cribs.busy().wear(kind, corners[i][0], corners[i][1]), want[kind][i]);
            }
            int k = kind;
            D.outside("wear: SPEED", Cribs::busy, (x, n) -> x.wear(k, n, 7), 1, 20, ToolCrib.BAD);
            D.outside("wear: hardness", Cribs::busy, (x, n) -> x.wear(k, 7, n), 1, 20, ToolCrib.BAD);
        }
        D.ends("wear: EDGE", Cribs::busy, (x, n) -> x.wear(n, 3, 4), Due.at(0, 12), Due.at(6, 12), ToolCrib.BAD);
        D.ends("wear: EDGE, full", Cribs::full, (x, n) -> x.wear(n, 3, 4), Due.at(0, 12), Due.at(23, 28), ToolCrib.BAD);
        D.refused("wear: no EDGES", ToolCrib::new, x -> x.wear(0, 1, 1), ToolCrib.BAD);
    }

    /** Promise 5: ROUND: INSERT's less s, at least 1. */
    private static void roundWearsAtLeastOne() {
        ToolCrib x = Cribs.busy();
        for (int s = 1; s <= 20; s++) {
            D.is("wear of a ROUND at SPEED " + s + ", hardness 1", x.wear(2, s, 1), 1);
        }
    }

    /** Promise 6: corners LEFT, till none is LEFT; of one CORNER none is. */
    private static void turnedTillNoneIsLeft() {
        for (int kind : CORNERED) {
            ToolCrib x = Cribs.cutting(kind, 8, 999, 1);
            for (int left = 6; left >= 0; left--) {
                x.cut(0, 0, 1, 1);
                D.is("turn", x.turn(0), left);
                D.is("LEFT", x.edgeTold(0, 3), left);
                D.is("cuts of the new corner", x.edgeTold(0, 6), 0);
                used("of the new corner", x, 0, 1);
            }
            D.is("a good one, but none is LEFT", x.turn(0), ToolCrib.STATE);
            D.refused("turn: CORNERS 1", () -> Cribs.cutting(kind, 1, 1, 1), y -> y.turn(0), ToolCrib.STATE);
            D.refused("turn: the last is turned", () -> turnedOnce(kind), y -> y.turn(0), ToolCrib.STATE);
        }
    }

    private static ToolCrib turnedOnce(int kind) {
        ToolCrib x = Cribs.cutting(kind, 2, 99, 1);
        x.turn(0);
        x.cut(0, 0, 3, 3);
        return x;
    }

    /** Promise 6: BAD: no such EDGE; -13: no INSERT, nor under one; STATE: broken, or none is LEFT: the first that is named. */
    private static void turnRefused() {
        D.outside("turn: EDGE", Cribs::busy, ToolCrib::turn, 0, 6, ToolCrib.BAD);
        D.refused("turn: no EDGES", ToolCrib::new, x -> x.turn(0), ToolCrib.BAD);
        D.refused("turn an EDGE, of which none is LEFT", Cribs::busy, x -> x.turn(0), -13);
        D.refused("turn a DRILL that is worn", Cribs::busy, x -> x.turn(3), -13);
        D.refused("turn a STEP that is broken", Cribs::busy, x -> x.turn(4), -13);
        D.refused("turn a BLADE that is broken, with corners LEFT", Cribs::busy, x -> x.turn(5), ToolCrib.STATE);
    }

    /** Promise 6: one that is worn is good then. */
    private static void turnWorn() {
        for (int kind : CORNERED) {
            ToolCrib x = Cribs.cutting(kind, 2, 1, 20);
            x.cut(0, 0, 99, 20);
            D.is("worn", x.edgeTold(0, 5), 1);
            D.is("turn", x.turn(0), 0);
            D.is("good", x.edgeTold(0, 5), 0);
            D.is("what its TOOL was MEASURED stays", x.toolTold(0, 5), 200);
        }
    }

    private static ToolCrib longEdge(int kind) {
        ToolCrib x = Cribs.easy();
        x.edge(kind, 200, 1, 1, 10);
        return x;
    }

    /** Promise 7: by n, 1 .. 50. */
    private static void grindByOneToFifty() {
        for (int kind : PLAIN) {
            D.ends("grind: n", () -> longEdge(kind), (x, n) -> x.grind(0, n), Due.at(1, 199), Due.at(50, 150), ToolCrib.BAD);
        }
        for (int kind : CORNERED) {
            D.outside("grind an INSERT: n ahead of -13", () -> longEdge(kind), (x, n) -> x.grind(0, n), 1, 50, ToolCrib.BAD);
            D.ends("grind an INSERT", Cribs::busy, (x, n) -> x.grind(kind, n), Due.at(1, -13), Due.at(50, -13), ToolCrib.BAD);
        }
    }

    /** Promise 7: LENGTH is n less, if it isn't below LEAST LENGTH then; a worn one is good then, with no cuts of its corner. */
    private static void grindToLeast() {
        for (int kind : PLAIN) {
            ToolCrib x = Cribs.cutting(kind, 1, 1, 20);
            x.cut(0, 0, 99, 20);
            D.is("worn", x.edgeTold(0, 5), 1);
            D.is("grind below LEAST LENGTH", x.grind(0, 11), ToolCrib.STATE);
            D.is("it stays worn", x.edgeTold(0, 5), 1);
            D.is("grind to LEAST LENGTH", x.grind(0, 10), 90);
            D.is("LENGTH", x.edgeTold(0, 1), 90);
            D.is("good", x.edgeTold(0, 5), 0);
            D.is("cuts of its corner", x.edgeTold(0, 6), 0);
            used("of its corner", x, 0, 1);
            D.is("what its TOOL was MEASURED stays", x.toolTold(0, 5), 200);
            D.is("grind by 1 more", x.grind(0, 1), ToolCrib.STATE);
            D.refused("grind below LEAST LENGTH", () -> Cribs.cutting(kind, 1, 1, 20), y -> y.grind(0, 11), ToolCrib.STATE);
            D.refused("grind one as long as LEAST", () -> leastAlready(kind), y -> y.grind(0, 1), ToolCrib.STATE);
        }
        ToolCrib x = longEdge(0);
        for (int length = 150; length > 0; length -= 50) {
            D.is("grind by 50", x.grind(0, 50), length);
        }
        D.is("grind to 0", x.grind(0, 50), ToolCrib.STATE);
        D.is("grind to 1", x.grind(0, 49), 1);
    }

    private static ToolCrib leastAlready(int kind) {
        ToolCrib x = Cribs.easy();
        x.edge(kind, 10, 10, 1, 10);
        return x;
    }

    /** Promise 7: BAD: no such EDGE, n; -13: an INSERT, or under one; STATE: broken: the first that is named. */
    private static void grindRefused() {
        D.outside("grind: EDGE", Cribs::busy, (x, n) -> x.grind(n, 1), 0, 6, ToolCrib.BAD);
        D.refused("grind: no EDGES", ToolCrib::new, x -> x.grind(0, 1), ToolCrib.BAD);
        D.refused("grind an INSERT that is good", Cribs::busy, x -> x.grind(1, 1), -13);
        D.refused("grind a ROUND, below LEAST LENGTH then", Cribs::busy, x -> x.grind(2, 50), -13);
        D.refused("grind a BLADE that is broken", Cribs::busy, x -> x.grind(5, 1), -13);
        D.refused("grind a STEP that is broken", Cribs::busy, x -> x.grind(4, 1), ToolCrib.STATE);
        D.refused("grind a STEP that is broken by 51", Cribs::busy, x -> x.grind(4, 51), ToolCrib.BAD);
    }

    /** Three MACHINES, and one TOOL that cuts on some of them, one behind the other. */
    private static ToolCrib cutOn(int... machines) {
        ToolCrib x = Cribs.easy();
        x.edge(0, 100, 50, 1, 999);
        x.tool(100, 0, 1, 0);
        for (int m = 0; m < 3; m++) {
            x.machine(1, 4);
        }
        for (int m : machines) {
            x.put(m, 0, 0);
            x.cut(m, 0, 1, 1);
            x.take(0);
        }
        return x;
    }

    private static void trail(ToolCrib x, int... want) {
        for (int i = 0; i < want.length; i++) {
            D.is("trail(0, " + i + ")", x.trail(0, i), want[i]);
        }
        for (int i : new int[] {-1, want.length, want.length + 1, Integer.MIN_VALUE, Integer.MAX_VALUE}) {
            D.is("trail(0, " + i + ")", x.trail(0, i), ToolCrib.NONE);
        }
    }

    /** Promise 8: NONE: none such; an EDGE that was never cut with has no TRAIL. */
    private static void trailEmpty() {
        trail(cutOn());
        ToolCrib x = cutOn();
        x.put(2, 0, 0);
        D.is("a cut that is refused", x.cut(2, 1, 1, 1), ToolCrib.STATE);
        D.is("another", x.cut(2, 0, 0, 1), ToolCrib.BAD);
        trail(x);
    }

    /** Promise 8: 8 at most are kept, from the oldest that is kept on. */
    private static void trailKeepsEight() {
        trail(cutOn(2), 2);
        trail(cutOn(0, 1, 2, 0, 1, 2, 0), 0, 1, 2, 0, 1, 2, 0);
        trail(cutOn(0, 1, 2, 0, 1, 2, 0, 2), 0, 1, 2, 0, 1, 2, 0, 2);
        trail(cutOn(0, 1, 2, 0, 1, 2, 0, 2, 1), 1, 2, 0, 1, 2, 0, 2, 1);
        trail(cutOn(0, 1, 2, 0, 1, 2, 0, 2, 1, 0, 2, 1, 0, 2, 0, 1, 0, 2, 1), 1, 0, 2, 0, 1, 0, 2, 1);
    }

    /** Promise 8: a MACHINE follows itself not, where the TRAIL is full, too; TURNED and GROUND ones keep it. */
    private static void trailFollowsItselfNot() {
        trail(cutOn(1, 1, 1), 1);
        trail(cutOn(0, 1, 1, 0, 0, 0, 1), 0, 1, 0, 1);
        trail(cutOn(0, 1, 2, 0, 1, 2, 0, 2, 2, 2), 0, 1, 2, 0, 1, 2, 0, 2);
        ToolCrib x = cutOn(1);
        x.put(2, 0, 0);
        x.take(0);
        x.grind(0, 1);
        trail(x, 1);
        x.put(1, 0, 0);
        x.cut(1, 0, 1, 1);
        trail(x, 1);
    }

    /** Promise 8: BAD: no such EDGE. */
    private static void trailRefused() {
        D.ends("trail: EDGE", Cribs::busy, (x, n) -> x.trail(n, 0), Due.at(0, 0), Due.at(6, ToolCrib.NONE), ToolCrib.BAD);
        D.outside("trail: EDGE, none such", Cribs::full, (x, n) -> x.trail(n, -1), 0, 23, ToolCrib.BAD);
        D.refused("trail: no EDGES", ToolCrib::new, x -> x.trail(0, 0), ToolCrib.BAD);
        D.outside("trail: i", () -> cutOn(0, 1, 2), (x, n) -> x.trail(0, n), 0, 2, ToolCrib.NONE);
    }

    /** Promise 31: KIND k, 0 .. 5; BAD: k, ahead of -11. */
    private static void takenKinds() {
        D.ends("taken: k of an EDGE", Cribs::busy, (x, n) -> x.taken(0, n), Due.at(0, 100), Due.at(5, -13), ToolCrib.BAD);
        D.ends("taken: k of a BLADE", Cribs::busy, (x, n) -> x.taken(5, n), Due.at(0, 30), Due.at(5, 30), ToolCrib.BAD);
        D.outside("taken: k of no EDGE", Cribs::busy, (x, n) -> x.taken(7, n), 0, 5, ToolCrib.BAD);
    }

    /** Promise 31: -11: no such EDGE, ahead of -13. */
    private static void takenRefused() {
        for (int k = 0; k < 6; k++) {
            int kind = k;
            D.outside("taken: EDGE", Cribs::busy, (x, n) -> x.taken(n, kind), 0, 6, -11);
            D.refused("taken: no EDGES", ToolCrib::new, x -> x.taken(0, kind), -11);
        }
        D.is("taken: the last EDGE", Cribs.full().taken(23, 1), 100);
        D.refused("taken: EDGE for an INSERT", Cribs::busy, x -> x.taken(0, 1), -13);
        D.refused("taken: DRILL for a STEP", Cribs::busy, x -> x.taken(3, 4), -13);
        D.refused("taken: a ROUND for a BLADE", Cribs::busy, x -> x.taken(2, 5), -13);
        D.is("taken: a worn one that was ground", groundDrill().taken(0, 3), 97);
    }

    private static ToolCrib groundDrill() {
        ToolCrib x = Cribs.cutting(3, 1, 9, 1);
        x.grind(0, 3);
        return x;
    }
}
