import java.util.function.Supplier;

/** Promises 18 to 23: what the document says of their bounds, of the empty and the full, and of refused calls. */
public final class MachinesBoundsTest {
    private static final Due D = new Due("MachinesBoundsTest");

    public static void main(String[] args) {
        speeds();
        magazines();
        machinesFull();
        putNumbers();
        putAtTheLastPlaces();
        putWhereHeld();
        putBetweenNeighbours();
        putTwice();
        putChecked();
        takeRefused();
        takeEmptiesItsPlacesAlone();
        atRefused();
        atEmptyAndFull();
        roomRefused();
        roomLeast();
        roomFull();
        cutNumbers();
        cutBadAheadOfState();
        cutWhereNoneTakes();
        cutAtTheEnds();
        mostUsedLeastNumber();
        usedUpExactly();
        wornByTheText();
        brokenByTheText();
        brokenAheadOfWorn();
        sistersTakeOver();
        D.end();
    }

    /** Promise 18: a MACHINE's SPEED 1 .. 20. */
    private static void speeds() {
        D.ends("machine: SPEED", Cribs::busy, (x, n) -> x.machine(n, 4), Due.at(1, 2), Due.at(20, 2), ToolCrib.BAD);
        for (int speed : new int[] {1, 20}) {
            ToolCrib x = Cribs.cutting(0, 1, 999, speed);
            x.cut(0, 0, 1, 1);
            D.is("SHARE at the SPEED, above the line", x.used(0, 0), 1);
            D.is("SHARE at the SPEED, below it", x.used(0, 1), 99900 / speed);
        }
    }

    /** Promise 18: a magazine of n places, 4 .. 16, each empty. */
    private static void magazines() {
        D.ends("machine: places", Cribs::busy, (x, n) -> x.machine(1, n), Due.at(4, 2), Due.at(16, 2), ToolCrib.BAD);
        for (int places : new int[] {4, 5, 15, 16}) {
            ToolCrib x = new ToolCrib();
            x.machine(1, places);
            for (int p = 0; p < places; p++) {
                D.is("at(0, " + p + ")", x.at(0, p), ToolCrib.NONE);
            }
            D.is("at, behind the last", x.at(0, places), ToolCrib.BAD);
        }
    }

    /** Promise 18: 3 at most, numbered from 0 as they come; BAD ahead of FULL. */
    private static void machinesFull() {
        ToolCrib x = new ToolCrib();
        for (int i = 0; i < 3; i++) {
            D.is("machine: refused ahead of " + i, x.machine(1, 3), ToolCrib.BAD);
            D.is("machine " + i, x.machine(1, 4 + i), i);
            D.is("count(2)", x.count(2), i + 1);
            D.is("its last place", x.at(i, 3 + i), ToolCrib.NONE);
            D.is("behind it", x.at(i, 4 + i), ToolCrib.BAD);
        }
        D.refused("machine 3", Cribs::full, y -> y.machine(1, 4), ToolCrib.FULL);
        D.refused("machine 3: SPEED", Cribs::full, y -> y.machine(21, 4), ToolCrib.BAD);
        D.refused("machine 3: places", Cribs::full, y -> y.machine(1, 17), ToolCrib.BAD);
    }

    /** Promise 19: BAD: the MACHINE, the TOOL or the place is none such; ahead of STATE. */
    private static void putNumbers() {
        D.ends("put: MACHINE", Cribs::busy, (x, n) -> x.put(n, 2, 1), Due.at(0, ToolCrib.STATE), Due.at(1, 1), ToolCrib.BAD);
        D.outside("put: TOOL", Cribs::busy, (x, n) -> x.put(1, n, 1), 0, 5, ToolCrib.BAD);
        D.outside("put: place of 4", Cribs::busy, (x, n) -> x.put(1, 2, n), 0, 3, ToolCrib.BAD);
        D.outside("put: place of 9", Cribs::busy, (x, n) -> x.put(0, 2, n), 0, 8, ToolCrib.BAD);
        D.outside("put: place of 16", Cribs::full, (x, n) -> x.put(0, 0, n), 0, 15, ToolCrib.BAD);
        D.outside("put: place, it is in one", Cribs::busy, (x, n) -> x.put(0, 1, n), 0, 8, ToolCrib.BAD);
        D.refused("put: no MACHINES", MachinesBoundsTest::toolAlone, x -> x.put(0, 0, 0), ToolCrib.BAD);
        D.refused("put: no TOOLS", MachinesBoundsTest::machineAlone, x -> x.put(0, 0, 0), ToolCrib.BAD);
        D.ends("put: MACHINE, full", Cribs::full, (x, n) -> x.put(n, 0, 0), Due.at(0, 1), Due.at(2, 1), ToolCrib.BAD);
        D.outside("put: TOOL, full", Cribs::full, (x, n) -> x.put(0, n, 0), 0, 9, ToolCrib.BAD);
    }

    private static ToolCrib toolAlone() {
        ToolCrib x = Cribs.easy();
        x.edge(0, 50, 40, 1, 10);
        x.tool(100, 0, 1, 0);
        return x;
    }

    private static ToolCrib machineAlone() {
        ToolCrib x = Cribs.easy();
        x.edge(0, 50, 40, 1, 10);
        x.machine(5, 4);
        return x;
    }

    /** TOOLS 0 to 5 of SIZES 1, 2, 3, 1, 2, 3 and FAMILY 0; MACHINE 0 with some places, MACHINE 1 with 16; check is 1. */
    private static ToolCrib shop(int places) {
        ToolCrib x = Cribs.easy();
        for (int i = 0; i < 6; i++) {
            x.edge(0, 100, 50, 1, 100);
            x.tool(100, i, 1 + i % 3, 0);
        }
        x.machine(4, places);
        x.machine(5, 16);
        return x;
    }

    /** Promise 19: at place p and the SIZE - 1 ones behind it, if all are there. */
    private static void putAtTheLastPlaces() {
        for (int places : new int[] {4, 7, 16}) {
            for (int t = 0; t < 3; t++) {
                int tool = t;
                int last = places - 1 - t;
                ToolCrib x = shop(places);
                D.is("put at the last places", x.put(0, t, last), 1);
                for (int p = last; p < places; p++) {
                    D.is("its places", x.at(0, p), t);
                }
                D.is("the place ahead", x.at(0, last - 1), ToolCrib.NONE);
                D.is("its place", x.toolTold(t, 7), last);
                for (int p = last + 1; p < places; p++) {
                    int place = p;
                    D.refused("put behind that", () -> shop(places), y -> y.put(0, tool, place), ToolCrib.STATE);
                }
                D.refused("put behind all", () -> shop(places), y -> y.put(0, tool, places), ToolCrib.BAD);
            }
        }
    }

    /** MACHINE 0 with 8 places: TOOL 2 holds 3, 4 and 5. */
    private static ToolCrib heldInTheMiddle() {
        ToolCrib x = shop(8);
        x.put(0, 2, 3);
        return x;
    }

    /** Promise 19: .. and empty: where one of its places is held, it is refused. */
    private static void putWhereHeld() {
        for (int t : new int[] {3, 4, 5}) {
            int size = t - 2;
            for (int p = 0; p < 8; p++) {
                int place = p;
                boolean room = p + size <= 3 || p > 5 && p + size <= 8;
                if (room) {
                    D.is("put SIZE " + size + " at " + p, heldInTheMiddle().put(0, t, p), 1);
                } else {
                    D.refused("put SIZE " + size + " at " + p, MachinesBoundsTest::heldInTheMiddle, x -> x.put(0, t, place), ToolCrib.STATE);
                }
            }
        }
    }

    /** Promise 19: a gap that is just wide enough. */
    private static void putBetweenNeighbours() {
        ToolCrib x = shop(7);
        x.put(0, 0, 0);
        x.put(0, 3, 4);
        D.is("3 between", x.put(0, 2, 1), 1);
        D.is("2 at the end", x.put(0, 1, 5), 1);
        int[] held = {0, 2, 2, 2, 3, 1, 1};
        for (int p = 0; p < 7; p++) {
            D.is("at(0, " + p + ")", x.at(0, p), held[p]);
        }
    }

    /** Promise 19: STATE: it is in one, this or another, where there is room, too. */
    private static void putTwice() {
        D.refused("put: it is in this one", MachinesBoundsTest::heldInTheMiddle, x -> x.put(0, 2, 0), ToolCrib.STATE);
        D.refused("put: it is there", MachinesBoundsTest::heldInTheMiddle, x -> x.put(0, 2, 3), ToolCrib.STATE);
        D.refused("put: it is in another", MachinesBoundsTest::heldInTheMiddle, x -> x.put(1, 2, 0), ToolCrib.STATE);
        ToolCrib x = heldInTheMiddle();
        x.take(2);
        D.is("put again, taken out", x.put(1, 2, 0), 1);
    }

    /** Promise 19: -3, too, where it is CHECKED in vain: 0 alone is; BAD is ahead of it. */
    private static void putChecked() {
        int[] readings = {-1, 0, 1};
        for (int reading : readings) {
            Supplier<ToolCrib> made = () -> measuredAs(reading);
            if (reading == 0) {
                D.refused("put: check is 0", made, x -> x.put(0, 0, 0), ToolCrib.STATE);
            } else {
                D.is("put: check is " + reading, made.get().put(0, 0, 0), 1);
            }
            D.refused("put: check, and no such place", made, x -> x.put(0, 0, 4), ToolCrib.BAD);
        }
        ToolCrib x = measuredAs(1);
        x.put(0, 0, 0);
        x.setter(40, 0);
        x.measure(0);
        D.is("check is 0 now", x.says(0, 2), 0);
        D.is("it is CHECKED as it is put alone", x.at(0, 0), 0);
        D.is("it cuts", x.cut(0, 0, 1, 1), 0);
    }

    /** A TOOL of NOMINAL LENGTH 40 that was MEASURED as told, where check is reading. */
    private static ToolCrib measuredAs(int reading) {
        ToolCrib x = Cribs.ruled("0", "0", "reading");
        x.edge(0, 20, 20, 1, 10);
        x.tool(20, 0, 1, 0);
        x.machine(1, 4);
        x.setter(40 - reading, 0);
        x.measure(0);
        return x;
    }

    /** Promise 20: BAD: no such TOOL; STATE: it is in none. */
    private static void takeRefused() {
        D.ends("take", Cribs::busy, ToolCrib::take, Due.at(0, 1), Due.at(5, 0), ToolCrib.BAD);
        D.ends("take, full", Cribs::full, ToolCrib::take, Due.at(0, ToolCrib.STATE), Due.at(9, 2), ToolCrib.BAD);
        D.refused("take: no TOOLS", ToolCrib::new, x -> x.take(0), ToolCrib.BAD);
        D.refused("take: in none", Cribs::busy, x -> x.take(2), ToolCrib.STATE);
        ToolCrib x = heldInTheMiddle();
        D.is("take", x.take(2), 0);
        D.is("take again", x.take(2), ToolCrib.STATE);
        D.is("its MACHINE", x.toolTold(2, 6), ToolCrib.NONE);
        D.is("its place", x.toolTold(2, 7), ToolCrib.NONE);
    }

    /** Promise 20: its places are empty then, all of them and no other. */
    private static void takeEmptiesItsPlacesAlone() {
        for (int t : new int[] {1, 2, 3}) {
            ToolCrib x = shop(7);
            x.put(0, 0, 0);
            x.put(0, 2, 1);
            x.put(0, 3, 4);
            x.put(0, 1, 5);
            x.put(1, 5, 1);
            int[] held = {0, 2, 2, 2, 3, 1, 1};
            D.is("take", x.take(t), 0);
            for (int p = 0; p < 7; p++) {
                D.is("at(0, " + p + ")", x.at(0, p), held[p] == t ? ToolCrib.NONE : held[p]);
            }
            for (int p = 1; p < 4; p++) {
                D.is("in another MACHINE", x.at(1, p), 5);
            }
        }
    }

    /** Promise 21: BAD: no such MACHINE, no such place of it. */
    private static void atRefused() {
        D.ends("at: MACHINE", Cribs::busy, (x, n) -> x.at(n, 0), Due.at(0, ToolCrib.NONE), Due.at(1, 0), ToolCrib.BAD);
        D.ends("at: MACHINE, full", Cribs::full, (x, n) -> x.at(n, 15), Due.at(0, ToolCrib.NONE), Due.at(2, 9), ToolCrib.BAD);
        D.ends("at: place of 4", Cribs::busy, (x, n) -> x.at(1, n), Due.at(0, 0), Due.at(3, ToolCrib.NONE), ToolCrib.BAD);
        D.ends("at: place of 9", Cribs::busy, (x, n) -> x.at(0, n), Due.at(0, ToolCrib.NONE), Due.at(8, 5), ToolCrib.BAD);
        D.ends("at: place of 16", Cribs::full, (x, n) -> x.at(2, n), Due.at(0, ToolCrib.NONE), Due.at(15, 9), ToolCrib.BAD);
        D.refused("at: no MACHINES", ToolCrib::new, x -> x.at(0, 0), ToolCrib.BAD);
    }

    /** Promise 21: NONE: it is empty; a magazine that is full. */
    private static void atEmptyAndFull() {
        ToolCrib x = shop(4);
        for (int p = 0; p < 4; p++) {
            D.is("empty", x.at(0, p), ToolCrib.NONE);
        }
        x.put(0, 5, 0);
        x.put(0, 3, 3);
        int[] held = {5, 5, 5, 3};
        for (int p = 0; p < 4; p++) {
            D.is("full", x.at(0, p), held[p]);
        }
    }

    /** Promise 22: BAD: no such MACHINE, no such TOOL. */
    private static void roomRefused() {
        D.ends("room: MACHINE", Cribs::busy, (x, n) -> x.room(n, 2), Due.at(0, ToolCrib.NONE), Due.at(1, 1), ToolCrib.BAD);
        D.ends("room: TOOL", Cribs::busy, (x, n) -> x.room(1, n), Due.at(0, 1), Due.at(5, 1), ToolCrib.BAD);
        D.ends("room: MACHINE, full", Cribs::full, (x, n) -> x.room(n, 0), Due.at(0, 0), Due.at(2, 0), ToolCrib.BAD);
        D.ends("room: TOOL, full", Cribs::full, (x, n) -> x.room(0, n), Due.at(0, 0), Due.at(9, 0), ToolCrib.BAD);
        D.refused("room: no MACHINES", MachinesBoundsTest::toolAlone, x -> x.room(0, 0), ToolCrib.BAD);
        D.refused("room: no TOOLS", MachinesBoundsTest::machineAlone, x -> x.room(0, 0), ToolCrib.BAD);
    }

    private static void rooms(ToolCrib x, int ofOne, int ofTwo, int ofThree) {
        D.is("room of SIZE 1", x.room(0, 3), ofOne);
        D.is("room of SIZE 2", x.room(0, 4), ofTwo);
        D.is("room of SIZE 3", x.room(0, 5), ofThree);
    }

    /** Promise 22: the least place where a TOOL has room: the first of two, the first of a gap, the last places. */
    private static void roomLeast() {
        rooms(shop(8), 0, 0, 0);
        ToolCrib x = heldInTheMiddle();
        rooms(x, 0, 0, 0);
        x.put(0, 0, 0);
        rooms(x, 1, 1, ToolCrib.NONE);
        x.take(0);
        x.put(0, 0, 1);
        rooms(x, 0, 6, ToolCrib.NONE);
        ToolCrib y = shop(7);
        y.put(0, 2, 0);
        y.put(0, 0, 3);
        rooms(y, 4, 4, 4);
        y.put(0, 3, 4);
        rooms(y, 5, 5, ToolCrib.NONE);
        y.put(0, 1, 5);
        rooms(y, ToolCrib.NONE, ToolCrib.NONE, ToolCrib.NONE);
    }

    /** Promise 22: NONE: none, in a magazine that is full; nothing is asked of THE RULE. */
    private static void roomFull() {
        ToolCrib x = shop(4);
        x.put(0, 2, 0);
        rooms(x, 3, ToolCrib.NONE, ToolCrib.NONE);
        x.put(0, 0, 3);
        rooms(x, ToolCrib.NONE, ToolCrib.NONE, ToolCrib.NONE);
        D.is("room in another", x.room(1, 5), 0);
        x.force(0);
        D.is("room, CHECKED in vain", x.room(1, 5), 0);
    }

    /** Promise 23: BAD: the MACHINE; FAMILY 0 .. 9; c 1 .. 99; h 1 .. 20. */
    private static void cutNumbers() {
        D.outside("cut: MACHINE", Cribs::busy, (x, n) -> x.cut(n, 1, 1, 1), 0, 1, ToolCrib.BAD);
        D.outside("cut: MACHINE, full", Cribs::full, (x, n) -> x.cut(n, 9, 1, 1), 0, 2, ToolCrib.BAD);
        D.refused("cut: no MACHINES", MachinesBoundsTest::toolAlone, x -> x.cut(0, 0, 1, 1), ToolCrib.BAD);
        D.outside("cut: FAMILY", Cribs::busy, (x, n) -> x.cut(0, n, 1, 1), 0, 9, ToolCrib.BAD);
        D.ends("cut: FAMILY", Cribs::full, (x, n) -> x.cut(2, n, 1, 1), Due.at(0, ToolCrib.STATE), Due.at(9, 9), ToolCrib.BAD);
        D.ends("cut: c", Cribs::busy, (x, n) -> x.cut(0, 1, n, 1), Due.at(1, 1), Due.at(99, 1), ToolCrib.BAD);
        D.ends("cut: h", Cribs::busy, (x, n) -> x.cut(0, 1, 1, n), Due.at(1, 1), Due.at(20, 1), ToolCrib.BAD);
    }

    /** Promise 23: BAD is ahead of STATE. */
    private static void cutBadAheadOfState() {
        Supplier<ToolCrib> empty = MachinesBoundsTest::machineAlone;
        D.refused("cut: none takes it; MACHINE", empty, x -> x.cut(1, 0, 1, 1), ToolCrib.BAD);
        D.refused("cut: none takes it; FAMILY", empty, x -> x.cut(0, 10, 1, 1), ToolCrib.BAD);
        D.refused("cut: none takes it; c", empty, x -> x.cut(0, 0, 100, 1), ToolCrib.BAD);
        D.refused("cut: none takes it; h", empty, x -> x.cut(0, 0, 1, 21), ToolCrib.BAD);
    }

    /** Promise 23: STATE: none does: none there, none of the FAMILY, in another MACHINE, taken out, worn or broken ones alone. */
    private static void cutWhereNoneTakes() {
        D.refused("cut: an empty magazine", MachinesBoundsTest::machineAlone, x -> x.cut(0, 0, 1, 1), ToolCrib.STATE);
        D.refused("cut: in no magazine", Cribs::busy, x -> x.cut(0, 2, 1, 1), ToolCrib.STATE);
        D.refused("cut: in another", Cribs::busy, x -> x.cut(0, 0, 1, 1), ToolCrib.STATE);
        D.refused("cut: worn", Cribs::busy, x -> x.cut(0, 3, 1, 1), ToolCrib.STATE);
        D.refused("cut: broken", Cribs::busy, x -> x.cut(0, 4, 1, 1), ToolCrib.STATE);
        D.refused("cut: none of the FAMILY", Cribs::busy, x -> x.cut(0, 9, 1, 1), ToolCrib.STATE);
        D.refused("cut: taken out", MachinesBoundsTest::takenOut, x -> x.cut(0, 0, 1, 1), ToolCrib.STATE);
    }

    private static ToolCrib takenOut() {
        ToolCrib x = Cribs.cutting(0, 1, 100, 5);
        x.cut(0, 0, 3, 3);
        x.take(0);
        return x;
    }

    /** Promise 23: a SHARE is c times WEAR by 100 times LIFE, at the ends of c, h, SPEED and LIFE, for each KIND. */
    private static void cutAtTheEnds() {
        int[] most = {400, 420, 400, 800, 820, 820};
        int[] least = {1, 2, 1, 2, 3, 3};
        for (int kind = 0; kind < 6; kind++) {
            ToolCrib x = Cribs.cutting(kind, 1, 999, 20);
            D.is("cut", x.cut(0, 0, 99, 20), 0);
            D.is("99 by 99900", x.used(0, 0) * 99900, 99L * most[kind] * x.used(0, 1));
            D.is("cuts", x.edgeTold(0, 6), 99);
            ToolCrib y = Cribs.cutting(kind, 1, 1, 1);
            D.is("cut", y.cut(0, 0, 1, 1), 0);
            D.is("1 by 100", y.used(0, 0) * 100, least[kind] * y.used(0, 1));
            D.is("cuts", y.edgeTold(0, 6), 1);
        }
    }

    /** Some sisters of FAMILY 0 with EDGES of these LIVES, in MACHINE 0 at SPEED 10. */
    private static ToolCrib sisters(int... lives) {
        ToolCrib x = Cribs.easy();
        x.machine(10, 16);
        x.machine(10, 16);
        for (int i = 0; i < lives.length; i++) {
            x.edge(0, 100, 50, 1, lives[i]);
            x.tool(100, i, 1, 0);
            x.put(0, i, lives.length - 1 - i);
        }
        return x;
    }

    /** A CUT that a TOOL makes alone, in MACHINE 1; then it is put into MACHINE 0 again. */
    private static void cutAlone(ToolCrib x, int tool, int cuts) {
        x.take(tool);
        x.put(1, tool, 0);
        x.cut(1, 0, cuts, 1);
        x.take(tool);
        x.put(0, tool, 15 - tool);
    }

    /** Promise 23: the one with the most USED, of like ones the least: like fractions, near ones, and none USED at all. */
    private static void mostUsedLeastNumber() {
        D.is("none USED", sisters(10, 10, 10).cut(0, 0, 1, 1), 0);
        ToolCrib x = sisters(10, 20, 10);
        cutAlone(x, 1, 20);
        cutAlone(x, 2, 10);
        D.is("0, 200/2000 and 100/1000", x.cut(0, 0, 1, 1), 1);
        ToolCrib y = sisters(10, 20, 10);
        cutAlone(y, 0, 10);
        cutAlone(y, 1, 20);
        cutAlone(y, 2, 10);
        D.is("all alike", y.cut(0, 0, 1, 1), 0);
        ToolCrib z = sisters(997, 998, 999);
        cutAlone(z, 0, 97);
        cutAlone(z, 1, 97);
        cutAlone(z, 2, 98);
        D.is("97/9970, 97/9980 and 98/9990", z.cut(0, 0, 1, 1), 2);
        ToolCrib w = sisters(999, 998, 997);
        for (int t = 0; t < 3; t++) {
            cutAlone(w, t, 99);
        }
        D.is("99/9990, 99/9980 and 99/9970", w.cut(0, 0, 1, 1), 2);
    }

    /** Promise 23: USED is 1 or more: worn; 1 less a little is good. */
    private static void usedUpExactly() {
        ToolCrib x = Cribs.cutting(0, 1, 10, 10);
        x.cut(0, 0, 99, 1);
        D.is("990 by 1000: good", x.edgeTold(0, 5), 0);
        x.cut(0, 0, 1, 1);
        D.is("1000 by 1000: worn", x.edgeTold(0, 5), 1);
        D.is("USED", x.used(0, 0), 1);
        ToolCrib y = Cribs.cutting(0, 1, 1, 1);
        y.cut(0, 0, 99, 1);
        D.is("99 by 100: good", y.edgeTold(0, 5), 0);
        y.cut(0, 0, 2, 1);
        D.is("101 by 100: worn", y.edgeTold(0, 5), 1);
        ToolCrib z = Cribs.cutting(0, 1, 99, 10);
        z.cut(0, 0, 99, 10);
        D.is("9900 by 9900: worn by one CUT", z.edgeTold(0, 5), 1);
        ToolCrib w = Cribs.cutting(0, 1, 999, 19);
        int cuts = 0;
        while (w.edgeTold(0, 5) == 0 && cuts < 5300) {
            w.cut(0, 0, 53, 1);
            cuts += 53;
        }
        D.is("99959 by 99900 is the first above 1", cuts, 5300);
        D.is("worn", w.edgeTold(0, 5), 1);
    }

    /** Promise 23: worn isn't 0: it is worn: -1, 1 and more are; 0 isn't. */
    private static void wornByTheText() {
        for (int n = -2; n <= 2; n++) {
            ToolCrib x = Cribs.cuttingBy(Cribs.ruled("cuts-" + (5 - n), "0", "1"), 0, 1, 999, 1);
            x.cut(0, 0, 5, 1);
            D.is("worn is " + n, x.says(0, 0), n);
            D.is("STATE", x.edgeTold(0, 5), n == 0 ? 0 : 1);
            D.is("a CUT more", x.cut(0, 0, 1, 1), n == 0 ? 0 : ToolCrib.STATE);
        }
    }

    /** Promise 23: broken isn't 0: the EDGE is broken; asked with this CUT's cuts, speed and stuff. */
    private static void brokenByTheText() {
        for (int n = -2; n <= 2; n++) {
            ToolCrib x = Cribs.cuttingBy(Cribs.ruled("0", "cuts+speed+stuff-" + (12 - n), "1"), 0, 1, 999, 3);
            x.cut(0, 0, 5, 4);
            D.is("broken is " + n, x.says(0, 1), n);
            D.is("STATE", x.edgeTold(0, 5), n == 0 ? 0 : 2);
            D.is("a CUT more", x.cut(0, 0, 1, 1), n == 0 ? 0 : ToolCrib.STATE);
        }
    }

    /** Promise 23: broken is ahead of worn, by the text and by USED. */
    private static void brokenAheadOfWorn() {
        ToolCrib x = Cribs.cuttingBy(Cribs.ruled("1", "1", "1"), 0, 1, 999, 1);
        x.cut(0, 0, 1, 1);
        D.is("worn and broken", x.edgeTold(0, 5), 2);
        ToolCrib y = Cribs.cuttingBy(Cribs.ruled("0", "1", "1"), 0, 1, 1, 20);
        y.cut(0, 0, 99, 20);
        D.is("USED up and broken", y.edgeTold(0, 5), 2);
        D.is("cuts are counted", y.edgeTold(0, 6), 99);
        D.is("count(8)", y.count(8), 1);
    }

    /** Promise 23: sisters take over, till none is good; those that aren't good stay as they are. */
    private static void sistersTakeOver() {
        ToolCrib x = sisters(1, 1, 1);
        for (int t = 0; t < 3; t++) {
            D.is("cut", x.cut(0, 0, 10, 1), t);
            D.is("count(8)", x.count(8), t + 1);
        }
        D.is("none is good", x.cut(0, 0, 10, 1), ToolCrib.STATE);
        x.grind(1, 1);
        D.is("GROUND, it takes it", x.cut(0, 0, 10, 1), 1);
    }
}
