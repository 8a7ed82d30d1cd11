import java.nio.charset.StandardCharsets;

/** Makes the cribs that tests start from. */
final class Cribs {
    private static final int BYTES_AT_ONCE = 8;

    private Cribs() {
    }

    /** Feeds a text eight bytes at a time; the last answer of feed. */
    static int feed(ToolCrib x, String text) {
        byte[] bytes = text.getBytes(StandardCharsets.ISO_8859_1);
        int answer = 0;
        for (int from = 0; from < bytes.length; from += BYTES_AT_ONCE) {
            int n = Math.min(BYTES_AT_ONCE, bytes.length - from);
            long packed = 0;
            for (int i = 0; i < n; i++) {
                packed |= (bytes[from + i] & 255L) << (8 * i);
            }
            answer = x.feed(n, packed);
        }
        return answer;
    }

    static int text(ToolCrib x, String text) {
        feed(x, text);
        return x.text();
    }

    /** A crib whose THE RULE is a text of these three parts. */
    static ToolCrib ruled(String worn, String broken, String check) {
        ToolCrib x = new ToolCrib();
        int number = text(x, "worn " + worn + ";broken " + broken + ";check " + check + ";");
        if (number != 1 || x.force(1) != 0) {
            throw new IllegalStateException("the rule of a test has a fault: " + number);
        }
        return x;
    }

    /** A crib whose rule wears and breaks nothing and lets in all. */
    static ToolCrib easy() {
        return ruled("0", "0", "1");
    }

    /** An easy crib with one TOOL, of SIZE 1 and FAMILY 0, at place 0 of MACHINE 0, which has 4 places. */
    static ToolCrib cutting(int kind, int corners, int life, int speed) {
        return cuttingBy(easy(), kind, corners, life, speed);
    }

    static ToolCrib cuttingBy(ToolCrib x, int kind, int corners, int life, int speed) {
        made(x.edge(kind, 100, 90, corners, life));
        made(x.tool(100, 0, 1, 0));
        made(x.machine(speed, 4));
        made(x.measure(0));
        made(x.put(0, 0, 0));
        return x;
    }

    /** An easy crib with one TOOL of FAMILY 2 in MACHINE 0. */
    static ToolCrib ofFamilyTwo() {
        ToolCrib x = easy();
        made(x.edge(0, 100, 50, 1, 999));
        made(x.tool(100, 0, 1, 2));
        made(x.machine(3, 4));
        made(x.put(0, 0, 0));
        return x;
    }

    /** A crib with some JOBS. */
    static ToolCrib wanting(int... wants) {
        ToolCrib x = new ToolCrib();
        for (int w : wants) {
            made(x.job(w));
        }
        return x;
    }

    /** An order's digits to the base 6, the first JOB the lowest one. */
    static long orderOf(int... jobs) {
        long order = 0;
        for (int i = jobs.length - 1; i >= 0; i--) {
            order = order * 6 + jobs[i];
        }
        return order;
    }

    static void row(ToolCrib x, int sheet, int sort, int... items) {
        made(x.sheet(sheet, sort, items.length));
        for (int i = 0; i < items.length; i++) {
            made(x.cell(sheet, i, items[i]));
        }
    }

    /** A call of what makes a crib must not be refused. */
    private static void made(long answer) {
        if (answer < 0) {
            throw new IllegalStateException("a call that makes a crib was refused: " + answer);
        }
    }

    /**
     * A crib with something of everything, and room for more of it. EDGES 0 to 5 are of KINDS 0 to 5, in TOOLS 0 to 5
     * of FAMILIES 0 to 5; EDGE 6 is in no TOOL. EDGE 1 has 1 corner LEFT, EDGE 2 none; 3 is worn, 4 and 5 are broken.
     * TOOL 2 is in no magazine, TOOL 0 in MACHINE 1 (4 places), the others in MACHINE 0 (9 places, of which 0 is empty).
     */
    static ToolCrib busy() {
        ToolCrib x = ruled("cuts = 30", "cuts = 31", "1");
        made(text(x, "worn speed;broken stuff;check life;"));
        int[] lengths = {100, 50, 50, 90, 80, 30, 70};
        int[] corners = {1, 3, 1, 1, 1, 4, 1};
        for (int i = 0; i < 7; i++) {
            made(x.edge(i % 6, lengths[i], lengths[i] - 10, corners[i], 999 - i));
        }
        for (int i = 0; i < 6; i++) {
            made(x.tool(100 + i, i, 1 + i % 3, i));
        }
        made(x.machine(3, 9));
        made(x.machine(5, 4));
        made(x.setter(2, 3));
        made(x.calibrate(200));
        made(x.measure(0));
        made(x.measure(1));
        int[] places = {0, 1, 0, 3, 4, 6};
        for (int t : new int[] {0, 1, 3, 4, 5}) {
            made(x.put(0, t, places[t]));
        }
        made(x.cut(0, 0, 7, 4));
        made(x.cut(0, 1, 9, 5));
        made(x.turn(1));
        made(x.cut(0, 1, 3, 2));
        made(x.cut(0, 3, 30, 1));
        made(x.cut(0, 4, 31, 2));
        made(x.cut(0, 5, 31, 1));
        made(x.take(0));
        made(x.put(1, 0, 0));
        made(x.cut(1, 0, 2, 6));
        for (int wants : new int[] {7, 24, 7}) {
            made(x.job(wants));
        }
        made(feed(x, "worn 41"));
        row(x, 0, 0, 1, 2, 3, 1, 4, 5);
        row(x, 1, 1, 1, 1, 1);
        row(x, 2, 2, 0, 0, 0, 1, 3, 2, 0);
        return x;
    }

    /** A crib that has all it can have: 24 EDGES, 10 TOOLS (the last at place 15), 3 MACHINES, 6 JOBS, 6 TEXTS, 160 bytes. */
    static ToolCrib full() {
        ToolCrib x = easy();
        for (int i = 2; i < 6; i++) {
            made(text(x, "worn 0;broken 0;check " + i + ";"));
        }
        for (int i = 0; i < 24; i++) {
            made(x.edge(i % 6, 100, 50, 8, 999));
        }
        for (int i = 0; i < 10; i++) {
            made(x.tool(100, i, 1, i));
        }
        for (int i = 0; i < 3; i++) {
            made(x.machine(20, 16));
        }
        for (int i = 0; i < 6; i++) {
            made(x.job(1 << i));
        }
        for (int i = 0; i < 20; i++) {
            made(x.feed(8, -1));
        }
        made(x.put(2, 9, 15));
        return x;
    }

    /** A crib with 160 bytes on THE TAPE, and room for TEXTS. */
    static ToolCrib fullTape() {
        ToolCrib x = new ToolCrib();
        for (int i = 0; i < 20; i++) {
            made(x.feed(8, 0x3b3b3b3b3b3b3b3bL));
        }
        return x;
    }
}
