/** Promises 1 and 27 to 30: what the document says of their bounds, of the empty and the full, and of refused calls. */
public final class HostBoundsTest {
    private static final Due D = new Due("HostBoundsTest");

    public static void main(String[] args) {
        nothingButTextZero();
        refusedAlone();
        last512thCall();
        countRefused();
        countsEmptyAndFull();
        countsOfTapeAndEdges();
        sheetNumbers();
        sheetSizes();
        sheetMissing();
        sheetRefusedInOrder();
        sheetAllZero();
        sheetZeroIsFamilyZero();
        sheetZeroIsNoStuff();
        cellSheets();
        cellPlaces();
        cellOfNone();
        cellMissing();
        cellBytes();
        cellShorts();
        cellInts();
        cutsNumbers();
        cutsRefusedInOrder();
        cutsOfNone();
        cutsFromTheFirstAndLast();
        cutsFromFarOutside();
        cutsOfThirteen();
        cutsAheadOfOutside();
        cutsLeftOut();
        D.end();
    }

    /** Promise 1: nothing but TEXT 0: the counts, and each thing that could be numbered 0. */
    private static void nothingButTextZero() {
        ToolCrib x = new ToolCrib();
        int[] counts = {0, 0, 0, 0, 1, 0, 0, 0, 0};
        for (int what = 0; what < counts.length; what++) {
            D.is("count(" + what + ")", x.count(what), counts[what]);
        }
        D.is("edgeTold(0, 0)", x.edgeTold(0, 0), ToolCrib.BAD);
        D.is("used(0, 0)", x.used(0, 0), ToolCrib.NO);
        D.is("wear(0, 1, 1)", x.wear(0, 1, 1), ToolCrib.BAD);
        D.is("turn(0)", x.turn(0), ToolCrib.BAD);
        D.is("grind(0, 1)", x.grind(0, 1), ToolCrib.BAD);
        D.is("trail(0, 0)", x.trail(0, 0), ToolCrib.BAD);
        D.is("tool(100, 0, 1, 0)", x.tool(100, 0, 1, 0), ToolCrib.BAD);
        D.is("toolTold(0, 0)", x.toolTold(0, 0), ToolCrib.BAD);
        D.is("calibrate(100)", x.calibrate(100), 0);
        D.is("measure(0)", x.measure(0), ToolCrib.BAD);
        D.is("says(0, 0)", x.says(0, 0), ToolCrib.NO);
        D.is("put(0, 0, 0)", x.put(0, 0, 0), ToolCrib.BAD);
        D.is("take(0)", x.take(0), ToolCrib.BAD);
        D.is("at(0, 0)", x.at(0, 0), ToolCrib.BAD);
        D.is("room(0, 0)", x.room(0, 0), ToolCrib.BAD);
        D.is("cut(0, 0, 1, 1)", x.cut(0, 0, 1, 1), ToolCrib.BAD);
        D.is("changes(0, 1)", x.changes(0, 1), 0);
        D.is("order(1, -1)", x.order(1, -1), 0);
        D.is("order(1, 0)", x.order(1, 0), ToolCrib.NONE);
        D.is("taken(0, 0)", x.taken(0, 0), -11);
        for (int s = 0; s < 4; s++) {
            D.is("cell(" + s + ", 0, 0)", x.cell(s, 0, 0), -11);
        }
        D.is("cuts(0, 0, 0, 0, 0)", x.cuts(0, 0, 0, 0, 0), ToolCrib.BAD);
        D.is("force(1)", x.force(1), ToolCrib.BAD);
        D.is("force(0)", x.force(0), 0);
        D.is("text()", x.text(), -100);
        for (int what = 0; what < counts.length; what++) {
            D.is("count(" + what + ") behind all that", x.count(what), counts[what]);
        }
    }

    /** Promise 1: one object is nothing to another. */
    private static void refusedAlone() {
        ToolCrib other = Cribs.full();
        D.is("another is full", other.count(0), 24);
        for (int what = 0; what < 9; what++) {
            D.is("count(" + what + ")", new ToolCrib().count(what), what == 4 ? 1 : 0);
        }
        D.is("the other is as it was", other.edgeTold(23, 1), 100);
    }

    /** Promise 1: an object is used for at most 512 calls: the 512th is answered like those ahead of it. */
    private static void last512thCall() {
        ToolCrib x = new ToolCrib();
        for (int i = 0; i < 511; i++) {
            D.is("measure", x.measure(0), ToolCrib.BAD);
        }
        D.is("the 512th", x.edge(0, 50, 40, 1, 10), 0);
        ToolCrib y = new ToolCrib();
        y.edge(0, 50, 40, 1, 999);
        y.tool(100, 0, 1, 0);
        y.machine(1, 4);
        y.measure(0);
        y.put(0, 0, 0);
        y.job(31);
        for (int i = 0; i < 100; i++) {
            D.is("order", y.order(1 + i % 9, -1), i % 9 < 4 ? ToolCrib.NONE : 5);
            D.is("cut", y.cut(0, 0, 1, 1), 0);
            D.is("cuts", y.edgeTold(0, 6), i + 1);
            D.is("feed", y.feed(1, 0), 1);
            D.is("text", y.text(), -100);
        }
        D.is("the 507th", y.take(0), 0);
        D.is("the 508th", y.take(0), ToolCrib.STATE);
        D.is("the 509th", y.count(4), 1);
        D.is("the 510th", y.used(0, 0), 1);
        D.is("the 511th", y.used(0, 1), 999);
        D.is("the 512th", y.edgeTold(0, 6), 100);
    }

    /** Promise 27: BAD: what is asked is none of 0 .. 8. */
    private static void countRefused() {
        D.ends("count, new", ToolCrib::new, ToolCrib::count, Due.at(0, 0), Due.at(8, 0), ToolCrib.BAD);
        D.ends("count, busy", Cribs::busy, ToolCrib::count, Due.at(0, 7), Due.at(8, 3), ToolCrib.BAD);
    }

    /** Promise 27: how many there are where all is full. */
    private static void countsEmptyAndFull() {
        int[] counts = {24, 10, 3, 6, 6, 160, 1, 0, 0};
        ToolCrib x = Cribs.full();
        for (int what = 0; what < counts.length; what++) {
            D.is("count(" + what + "), full", x.count(what), counts[what]);
        }
        x.force(5);
        D.is("THE RULE is the last", x.count(6), 5);
    }

    /** Promise 27: bytes of THE TAPE, OFFSET below 0, EDGES that aren't good: none, worn and broken ones, all in tools. */
    private static void countsOfTapeAndEdges() {
        ToolCrib x = Cribs.ruled("1", "cuts=2", "1");
        x.machine(1, 16);
        for (int i = 0; i < 10; i++) {
            x.edge(1, 50, 40, 2, 10);
            x.tool(100, i, 1, i);
            x.put(0, i, i);
            D.is("not good", x.count(8), i);
            D.is("cut", x.cut(0, i, 1 + i % 2, 1), i);
        }
        D.is("all are not good", x.count(8), 10);
        x.turn(0);
        D.is("one is TURNED", x.count(8), 9);
        D.is("one is broken", x.turn(1), ToolCrib.STATE);
        D.is("not good", x.count(8), 9);
        x.setter(-50, 20);
        D.is("calibrate", x.calibrate(400), -59);
        D.is("OFFSET", x.count(7), -59);
        for (int i = 1; i <= 8; i++) {
            x.feed(i, 0);
            D.is("bytes", x.count(5), i * (i + 1) / 2);
        }
        x.text();
        D.is("no bytes", x.count(5), 0);
    }

    /** Promise 28: SHEETS 0 .. 3; sorts 0, 1, 2, and -1. */
    private static void sheetNumbers() {
        for (int sort = -1; sort <= 2; sort++) {
            int s = sort;
            D.ends("sheet", Cribs::busy, (x, n) -> x.sheet(n, s, 3), Due.at(0, 1), Due.at(3, 1), ToolCrib.BAD);
        }
        for (int sheet = 0; sheet < 4; sheet++) {
            int s = sheet;
            D.ends("sheet: sort", Cribs::busy, (x, n) -> x.sheet(s, n, 3), Due.at(-1, 1), Due.at(2, 1), ToolCrib.BAD);
        }
    }

    /** Promise 28: a row of n, 0 .. 40: BAD: n above 40; -14: below 0. */
    private static void sheetSizes() {
        for (int sort = 0; sort < 3; sort++) {
            for (int n : new int[] {0, 1, 39, 40}) {
                ToolCrib x = Cribs.busy();
                D.is("sheet of " + n, x.sheet(0, sort, n), 1);
                D.is("its last item", x.cell(0, n - 1, 1), n == 0 ? -12 : 1);
                D.is("behind it", x.cell(0, n, 1), -12);
            }
            int s = sort;
            for (int n : new int[] {41, 42, Integer.MAX_VALUE}) {
                D.refused("sheet of " + n, Cribs::busy, x -> x.sheet(1, s, n), ToolCrib.BAD);
                D.refused("sheet of " + n + ", missing", Cribs::busy, x -> x.sheet(3, s, n), ToolCrib.BAD);
            }
            for (int n : new int[] {-1, -2, -40, Integer.MIN_VALUE}) {
                D.refused("sheet of " + n, Cribs::busy, x -> x.sheet(1, s, n), -14);
                D.refused("sheet of " + n + ", missing", Cribs::busy, x -> x.sheet(3, s, n), -14);
            }
        }
    }

    /** Promise 28: missing (sort -1: n does not matter), also one that is missing already. */
    private static void sheetMissing() {
        for (int n : new int[] {Integer.MIN_VALUE, -1, 0, 1, 40, 41, Integer.MAX_VALUE}) {
            for (int sheet = 0; sheet < 4; sheet++) {
                ToolCrib x = Cribs.busy();
                D.is("sheet(" + sheet + ", -1, " + n + ")", x.sheet(sheet, -1, n), 1);
                D.is("missing", x.cell(sheet, 0, 1), -11);
            }
        }
        for (int sheet = 0; sheet < 4; sheet++) {
            D.is("missing at first", new ToolCrib().cell(sheet, 0, 1), -11);
        }
    }

    /** Promise 28: BAD: no such SHEET, sort; ahead of -14. */
    private static void sheetRefusedInOrder() {
        D.outside("sheet: none such, n below 0", Cribs::busy, (x, n) -> x.sheet(n, 0, -1), 0, 3, ToolCrib.BAD);
        D.outside("sheet: none such, missing", Cribs::busy, (x, n) -> x.sheet(n, -1, -1), 0, 3, ToolCrib.BAD);
        D.outside("sheet: sort, n below 0", Cribs::busy, (x, n) -> x.sheet(0, n, -1), -1, 2, ToolCrib.BAD);
        D.outside("sheet: sort, n above 40", Cribs::busy, (x, n) -> x.sheet(0, n, 41), -1, 2, ToolCrib.BAD);
    }

    /** Promise 28: all 0: what stood there is gone, also from behind the end of a shorter row between. */
    private static void sheetAllZero() {
        for (int between = -1; between <= 2; between++) {
            ToolCrib x = Cribs.ofFamilyTwo();
            Cribs.row(x, 0, 2, 2, 5, 7, 2, 5, 7);
            D.is("cuts", x.cuts(0, 0, 2, 0, 2), 2);
            x.sheet(0, between, 0);
            x.sheet(0, 2, 6);
            D.is("all 0: FAMILY 0, 0 cuts, STUFF 0", x.cuts(0, 0, 2, 0, 2), 0);
            x.cell(0, 0, 2);
            x.cell(0, 1, 5);
            D.is("the third is 0", x.cuts(0, 0, 2, 0, 1), 0);
            x.cell(0, 2, 7);
            x.cell(0, 1, 0);
            D.is("the second is 0", x.cuts(0, 0, 2, 0, 1), 0);
        }
    }

    /** Promise 28: all 0: each FAMILY that wasn't told is 0, in a new row and in one that held another there. */
    private static void sheetZeroIsFamilyZero() {
        for (int sort = 0; sort < 3; sort++) {
            ToolCrib x = Cribs.cutting(0, 1, 999, 1);
            for (int time = 0; time < 2; time++) {
                x.sheet(0, sort, 39);
                for (int k = 0; k < 13; k++) {
                    x.cell(0, 3 * k + 1, 1);
                    x.cell(0, 3 * k + 2, 1);
                }
                D.is("13 CUTS by FAMILY 0", x.cuts(0, 0, sort, 0, 13), 13);
                for (int i = 0; i < 39; i++) {
                    x.cell(0, i, 9);
                }
            }
        }
    }

    /** Promise 28: all 0: of 40 the last, too: a STUFF that wasn't told is 0, whatever stood there. */
    private static void sheetZeroIsNoStuff() {
        for (int sort = 0; sort < 3; sort++) {
            ToolCrib x = Cribs.cutting(0, 1, 999, 1);
            x.sheet(0, sort, 40);
            x.cell(0, 38, 1);
            x.cell(0, 39, 1);
            D.is("the last three of 40", x.cuts(0, 0, sort, 37, 1), 1);
            x.sheet(0, sort, 40);
            x.cell(0, 38, 1);
            D.is("the last is 0", x.cuts(0, 0, sort, 37, 1), 0);
        }
    }

    /** Promise 29: BAD: no such SHEET, ahead of -12. */
    private static void cellSheets() {
        D.ends("cell: SHEET", Cribs::busy, (x, n) -> x.cell(n, 0, 1), Due.at(0, 1), Due.at(3, -11), ToolCrib.BAD);
        D.outside("cell: SHEET", Cribs::busy, (x, n) -> x.cell(n, 99, 1), 0, 3, ToolCrib.BAD);
    }

    /** Promise 29: -12: a place outside, of rows of 1, 6 and 40. */
    private static void cellPlaces() {
        D.ends("cell: i of 6", Cribs::busy, (x, n) -> x.cell(0, n, 1), Due.at(0, 1), Due.at(5, 1), -12);
        for (int sort = 0; sort < 3; sort++) {
            int s = sort;
            D.ends("cell: i of 40", () -> sheetOf(s, 40), (x, n) -> x.cell(3, n, 1), Due.at(0, 1), Due.at(39, 1), -12);
            D.ends("cell: i of 1", () -> sheetOf(s, 1), (x, n) -> x.cell(3, n, 1), Due.at(0, 1), Due.at(0, 1), -12);
        }
    }

    private static ToolCrib sheetOf(int sort, int n) {
        ToolCrib x = Cribs.busy();
        x.sheet(3, sort, n);
        return x;
    }

    /** Promise 29: in a row of none each place is outside. */
    private static void cellOfNone() {
        for (int sort = 0; sort < 3; sort++) {
            int s = sort;
            for (int i : new int[] {Integer.MIN_VALUE, -1, 0, 1, 39, 40, Integer.MAX_VALUE}) {
                D.refused("cell(3, " + i + ", 1)", () -> sheetOf(s, 0), x -> x.cell(3, i, 1), -12);
            }
        }
    }

    /** Promise 29: -11: nothing where something is asked, ahead of -12. */
    private static void cellMissing() {
        for (int i : new int[] {Integer.MIN_VALUE, -1, 0, 39, 40, Integer.MAX_VALUE}) {
            D.refused("cell(3, " + i + ", 1)", Cribs::busy, x -> x.cell(3, i, 1), -11);
        }
    }

    /** What a CUT by a row of one sort answers: its cuts of the corner, or -1, if it was left out. */
    private static void cutBy(int sort, int family, int cuts, int stuff, int want) {
        ToolCrib x = Cribs.ofFamilyTwo();
        Cribs.row(x, 0, sort, family, cuts, stuff);
        String told = "sort " + sort + ", " + family + ", " + cuts + ", " + stuff;
        D.is(told, x.cuts(0, 0, sort, 0, 1), want < 0 ? 0 : 1);
        D.is(told + ": cuts", x.edgeTold(0, 6), Math.max(want, 0));
    }

    /** Promise 29: of bytes its lowest 8 bits. */
    private static void cellBytes() {
        for (int wrap : new int[] {256, -256, 512, 65536, Integer.MIN_VALUE, Integer.MAX_VALUE - 255}) {
            cutBy(0, 2 + wrap, 7, 5, 7);
            cutBy(0, 2, 99 + wrap, 5, 99);
            cutBy(0, 2, 7, 20 + wrap, 7);
        }
        cutBy(0, 2, 127, 5, -1);
        cutBy(0, 2, 128, 5, -1);
        cutBy(0, 2, 255, 5, -1);
        cutBy(0, 2, 256, 5, -1);
        cutBy(0, 2, 257, 5, 1);
        cutBy(0, 2, -255, 5, 1);
    }

    /** Promise 29: of shorts its lowest 16 bits. */
    private static void cellShorts() {
        for (int wrap : new int[] {65536, -65536, 131072, Integer.MIN_VALUE, Integer.MAX_VALUE - 65535}) {
            cutBy(1, 2 + wrap, 7, 5, 7);
            cutBy(1, 2, 99 + wrap, 5, 99);
            cutBy(1, 2, 7, 20 + wrap, 7);
        }
        for (int wrap : new int[] {256, -256, 512, 32768}) {
            cutBy(1, 2 + wrap, 7, 5, -1);
            cutBy(1, 2, 99 + wrap, 5, -1);
            cutBy(1, 2, 7, 20 + wrap, -1);
        }
        cutBy(1, 2, 65535, 5, -1);
        cutBy(1, 2, 65537, 5, 1);
        cutBy(1, 2, -65535, 5, 1);
    }

    /** Promise 29: of ints the whole number. */
    private static void cellInts() {
        cutBy(2, 2, 99, 20, 99);
        for (int wrap : new int[] {256, -256, 65536, -65536, Integer.MIN_VALUE, 1 << 30}) {
            cutBy(2, 2 + wrap, 7, 5, -1);
            cutBy(2, 2, 99 + wrap, 5, -1);
            cutBy(2, 2, 7, 20 + wrap, -1);
        }
    }

    /** Promise 30: BAD: no such MACHINE, SHEET, sort; n 0 .. 13. */
    private static void cutsNumbers() {
        D.ends("cuts: MACHINE", Cribs::busy, (x, n) -> x.cuts(n, 0, 0, 0, 2), Due.at(0, 2), Due.at(1, 0), ToolCrib.BAD);
        D.ends("cuts: MACHINE, full", HostBoundsTest::sheetInFull, (x, n) -> x.cuts(n, 0, 0, 0, 1), Due.at(0, 0), Due.at(2, 1), ToolCrib.BAD);
        D.ends("cuts: SHEET", Cribs::busy, (x, n) -> x.cuts(0, n, 0, 0, 1), Due.at(0, 1), Due.at(3, -11), ToolCrib.BAD);
        D.ends("cuts: sort", Cribs::busy, (x, n) -> x.cuts(0, 2, n, 3, 1), Due.at(0, -13), Due.at(2, 1), ToolCrib.BAD);
        D.ends("cuts: n", () -> sheetOf(2, 40), (x, n) -> x.cuts(0, 3, 2, 0, n), Due.at(0, 0), Due.at(13, 0), ToolCrib.BAD);
        D.ends("cuts: n, of 6", Cribs::busy, (x, n) -> x.cuts(0, 0, 0, 0, n), Due.at(0, 0), Due.at(13, -12), ToolCrib.BAD);
        D.refused("cuts: no MACHINES", ToolCrib::new, x -> x.cuts(0, 0, 0, 0, 1), ToolCrib.BAD);
    }

    private static ToolCrib sheetInFull() {
        ToolCrib x = Cribs.full();
        Cribs.row(x, 0, 0, 9, 1, 1);
        return x;
    }

    /** Promise 30: BAD ahead of -13 and -11, these ahead of -12; a SHEET that is missing is of no other sort. */
    private static void cutsRefusedInOrder() {
        D.refused("cuts: MACHINE, missing", Cribs::busy, x -> x.cuts(2, 3, 0, 0, 1), ToolCrib.BAD);
        D.refused("cuts: MACHINE, another sort", Cribs::busy, x -> x.cuts(2, 0, 1, 0, 1), ToolCrib.BAD);
        D.refused("cuts: sort, missing", Cribs::busy, x -> x.cuts(0, 3, 3, 0, 1), ToolCrib.BAD);
        D.refused("cuts: sort -1, missing", Cribs::busy, x -> x.cuts(0, 3, -1, 0, 1), ToolCrib.BAD);
        D.refused("cuts: n, missing", Cribs::busy, x -> x.cuts(0, 3, 0, 0, 14), ToolCrib.BAD);
        D.refused("cuts: n, another sort", Cribs::busy, x -> x.cuts(0, 0, 1, 0, -1), ToolCrib.BAD);
        D.refused("cuts: n, outside", Cribs::busy, x -> x.cuts(0, 0, 0, 99, 14), ToolCrib.BAD);
        for (int sort = 0; sort < 3; sort++) {
            int s = sort;
            D.refused("cuts: missing", Cribs::busy, x -> x.cuts(0, 3, s, 0, 1), -11);
            D.refused("cuts: missing, outside", Cribs::busy, x -> x.cuts(0, 3, s, -1, 1), -11);
            D.refused("cuts: missing, none", Cribs::busy, x -> x.cuts(0, 3, s, 0, 0), -11);
            for (int sheet = 0; sheet < 3; sheet++) {
                int other = sheet;
                if (sheet != sort) {
                    D.refused("cuts: another sort", Cribs::busy, x -> x.cuts(0, other, s, 0, 1), -13);
                    D.refused("cuts: another sort, outside", Cribs::busy, x -> x.cuts(0, other, s, 99, 13), -13);
                    D.refused("cuts: another sort, none", Cribs::busy, x -> x.cuts(0, other, s, 0, 0), -13);
                }
            }
        }
    }

    /** Promise 30: none of them: no place is asked. */
    private static void cutsOfNone() {
        for (int from : new int[] {0, 3, 6, -1, 40, Integer.MIN_VALUE, Integer.MAX_VALUE}) {
            D.refused("cuts: none, from " + from, Cribs::busy, x -> x.cuts(0, 0, 0, from, 0), 0);
        }
        D.refused("cuts: none of a row of none", () -> sheetOf(1, 0), x -> x.cuts(0, 3, 1, 0, 0), 0);
        D.refused("cuts: one of a row of none", () -> sheetOf(1, 0), x -> x.cuts(0, 3, 1, 0, 1), -12);
    }

    /** Promise 30: from one on: the first there is, and the last that has two behind it, in rows of 2 to 6 and 40. */
    private static void cutsFromTheFirstAndLast() {
        for (int size : new int[] {3, 4, 5, 6, 40}) {
            int last = size - 3;
            D.ends("cuts: from, of " + size, () -> sheetOf(0, size), (x, n) -> x.cuts(0, 3, 0, n, 1), Due.at(0, 0), Due.at(last, 0), -12);
            D.refused("cuts: from the last but one", () -> sheetOf(0, size), x -> x.cuts(0, 3, 0, size - 2, 1), -12);
            D.refused("cuts: from the last", () -> sheetOf(0, size), x -> x.cuts(0, 3, 0, size - 1, 1), -12);
            D.refused("cuts: from behind it", () -> sheetOf(0, size), x -> x.cuts(0, 3, 0, size, 1), -12);
            ToolCrib x = Cribs.ofFamilyTwo();
            x.sheet(0, 0, size);
            int[] triple = {2, 7, 5};
            for (int i = 0; i < 3; i++) {
                x.cell(0, last + i, triple[i]);
            }
            D.is("cuts from the last three", x.cuts(0, 0, 0, last, 1), 1);
            D.is("their cuts", x.edgeTold(0, 6), 7);
        }
        D.refused("cuts of a row of 2", () -> sheetOf(0, 2), x -> x.cuts(0, 3, 0, 0, 1), -12);
    }

    /** Promise 30: from so far outside that what is behind it wraps around. */
    private static void cutsFromFarOutside() {
        for (int n : new int[] {1, 2, 13}) {
            for (int far = 0; far < 45; far++) {
                ToolCrib x = Cribs.busy();
                D.is("cuts from most less " + far, x.cuts(0, 0, 0, Integer.MAX_VALUE - far, n), -12);
                D.is("cuts from least and " + far, x.cuts(0, 0, 0, Integer.MIN_VALUE + far, n), -12);
                D.is("cuts from -1 less " + far, x.cuts(0, 0, 0, -1 - far, n), -12);
                D.is("none was done", x.edgeTold(1, 6), 3);
            }
        }
    }

    /** Promise 30: n of them, 13 at most: all of a row of 40 from 0 and 1 on; from 2 on the last is outside. */
    private static void cutsOfThirteen() {
        for (int from = 0; from <= 2; from++) {
            ToolCrib x = Cribs.ofFamilyTwo();
            x.sheet(0, 2, 40);
            int[] triple = {2, 2, 3};
            for (int i = from; i < 40; i++) {
                x.cell(0, i, triple[(i - from) % 3]);
            }
            D.is("cuts of 13, from " + from, x.cuts(0, 0, 2, from, 13), from < 2 ? 13 : -12);
            D.is("2 cuts each", x.edgeTold(0, 6), from < 2 ? 26 : 24);
        }
    }

    /** Promise 30: -12: what stood ahead was done; three of which two are there are not begun. */
    private static void cutsAheadOfOutside() {
        for (int size = 3; size <= 8; size++) {
            ToolCrib x = Cribs.ofFamilyTwo();
            x.sheet(1, 1, size);
            for (int i = 0; i < size; i++) {
                x.cell(1, i, i % 3 == 1 ? 11 : 2);
            }
            D.is("cuts", x.cuts(0, 1, 1, 0, 13), -12);
            D.is("cuts of those ahead", x.edgeTold(0, 6), size / 3 * 11);
            D.is("their TRAIL", x.trail(0, 0), 0);
        }
    }

    /** Promise 30: how many were done (others are left out): those that are BAD at both ends, and those that none takes. */
    private static void cutsLeftOut() {
        cutBy(2, -1, 7, 5, -1);
        cutBy(2, 10, 7, 5, -1);
        cutBy(2, 2, 0, 5, -1);
        cutBy(2, 2, 100, 5, -1);
        cutBy(2, 2, 7, 0, -1);
        cutBy(2, 2, 7, 21, -1);
        cutBy(2, 0, 7, 5, -1);
        cutBy(2, 9, 7, 5, -1);
        cutBy(2, 2, 1, 1, 1);
        ToolCrib x = Cribs.cutting(0, 1, 1, 10);
        Cribs.row(x, 0, 0, 0, 9, 1, 0, 1, 1, 0, 1, 1, 0, 2, 2);
        D.is("the second wears it, two are left out", x.cuts(0, 0, 0, 0, 4), 2);
        D.is("cuts", x.edgeTold(0, 6), 10);
        D.is("worn", x.edgeTold(0, 5), 1);
        D.is("all are left out", x.cuts(0, 0, 0, 0, 4), 0);
    }
}
