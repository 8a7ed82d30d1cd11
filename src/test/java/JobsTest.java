/** Promises 24 to 26: job, changes, order. */
public final class JobsTest {
    private static final Due D = new Due("JobsTest");

    public static void main(String[] args) {
        jobs();
        noJobs();
        wrongOrders();
        changes();
        goingOut();
        bestOrders();
        bestOfAll();
        D.end();
    }

    private static void jobs() {
        ToolCrib x = new ToolCrib();
        D.is("job(0)", x.job(0), ToolCrib.BAD);
        D.is("job(1024)", x.job(1024), ToolCrib.BAD);
        D.is("job(1025)", x.job(1025), ToolCrib.BAD);
        D.is("job(-1)", x.job(-1), ToolCrib.BAD);
        D.is("job(least)", x.job(Integer.MIN_VALUE), ToolCrib.BAD);
        D.is("six families", x.job(63), ToolCrib.BAD);
        D.is("count(3)", x.count(3), 0);
        D.is("five families", x.job(31 << 5), 0);
        D.is("one family", x.job(512), 1);
        for (int i = 2; i < 6; i++) {
            D.is("job", x.job(1), i);
        }
        D.is("full", x.job(1), ToolCrib.FULL);
        D.is("bad is named first", x.job(0), ToolCrib.BAD);
        D.is("count(3)", x.count(3), 6);
    }

    private static void noJobs() {
        ToolCrib x = new ToolCrib();
        D.is("changes(0, 1)", x.changes(0, 1), 0);
        D.is("changes(1, 1)", x.changes(1, 1), ToolCrib.BAD);
        D.is("changes(0, 0)", x.changes(0, 0), ToolCrib.BAD);
        D.is("order(9, -1)", x.order(9, -1), 0);
        D.is("order(9, 0)", x.order(9, 0), ToolCrib.NONE);
        D.is("order(9, -2)", x.order(9, -2), ToolCrib.NONE);
        D.is("order(0, -1)", x.order(0, -1), ToolCrib.BAD);
    }

    private static void wrongOrders() {
        ToolCrib x = new ToolCrib();
        x.job(3);
        x.job(12);
        x.job(3);
        D.is("0 0 0", x.changes(0, 5), ToolCrib.BAD);
        D.is("0 1 1", x.changes(6 + 36, 5), ToolCrib.BAD);
        D.is("0 1 3", x.changes(6 + 3 * 36, 5), ToolCrib.BAD);
        D.is("0 1 2 and 1", x.changes(6 + 72 + 216, 5), ToolCrib.BAD);
        D.is("0 1 2 and far 1", x.changes(6 + 72 + (1L << 40) * 216, 5), ToolCrib.BAD);
        D.is("-1", x.changes(-1, 5), ToolCrib.BAD);
        D.is("-78", x.changes(-78, 5), ToolCrib.BAD);
        D.is("least", x.changes(Long.MIN_VALUE, 5), ToolCrib.BAD);
        D.is("most", x.changes(Long.MAX_VALUE, 5), ToolCrib.BAD);
        D.is("r 0", x.changes(78, 0), ToolCrib.BAD);
        D.is("r 10", x.changes(78, 10), ToolCrib.BAD);
        D.is("r least", x.changes(78, Integer.MIN_VALUE), ToolCrib.BAD);
        D.is("no room", x.changes(78, 1), ToolCrib.NONE);
        D.is("wrong ahead of no room", x.changes(0, 1), ToolCrib.BAD);
        D.is("0 1 2", x.changes(78, 2), 6);
        D.is("0 1 2", x.changes(78, 9), 4);
        D.is("0 2 1", x.changes(12 + 36, 2), 4);
    }

    private static void changes() {
        ToolCrib x = new ToolCrib();
        x.job(0b11111);
        x.job(0b100001);
        D.is("0 1 with 5", x.changes(6, 5), 6);
        D.is("1 0 with 5", x.changes(1, 5), 6);
        D.is("0 1 with 4", x.changes(6, 4), ToolCrib.NONE);
        D.is("1 0 with 4", x.changes(1, 4), ToolCrib.NONE);
        x.job(0b11111);
        D.is("0 1 2 with 5", x.changes(6 + 72, 5), 7);
        D.is("0 1 2 with 6", x.changes(6 + 72, 6), 6);
        D.is("0 2 1 with 5", x.changes(12 + 36, 5), 6);
    }

    private static long orderOf(int... jobs) {
        long order = 0;
        for (int i = jobs.length - 1; i >= 0; i--) {
            order = order * 6 + jobs[i];
        }
        return order;
    }

    /** What goes out shows in what the later ones cost. */
    private static void goingOut() {
        ToolCrib x = new ToolCrib();
        x.job(0b00111);
        x.job(0b01000);
        x.job(0b00001);
        x.job(0b00010);
        x.job(0b00100);
        D.is("2 is wanted last: it goes", x.changes(orderOf(0, 1, 2, 3, 4), 3), 5);
        D.is("0 is wanted last: it goes", x.changes(orderOf(0, 1, 4, 3, 2), 3), 5);
        ToolCrib y = new ToolCrib();
        y.job(0b00111);
        y.job(0b11000);
        y.job(0b00011);
        y.job(0b01001);
        D.is("never again goes ahead of all", y.changes(orderOf(0, 1, 2, 3), 4), 5);
        D.is("with 3: 2 and 1 go, 4 then, nothing", y.changes(orderOf(0, 1, 2, 3), 3), 6);
        D.is("0 2 1 3 with 3", y.changes(orderOf(0, 2, 1, 3), 3), 5);
        ToolCrib z = new ToolCrib();
        z.job(0b0011);
        z.job(0b0100);
        z.job(0b0011);
        D.is("like ones", z.changes(orderOf(0, 1, 2), 2), 4);
        ToolCrib w = new ToolCrib();
        w.job(0b0011);
        w.job(0b0100);
        w.job(0b0110);
        w.job(0b0001);
        D.is("0 is wanted behind 1: it goes", w.changes(orderOf(0, 1, 2, 3), 2), 4);
        ToolCrib v = new ToolCrib();
        v.job(0b0011);
        v.job(0b0100);
        v.job(0b0101);
        v.job(0b0010);
        D.is("1 is wanted behind 0: it goes", v.changes(orderOf(0, 1, 2, 3), 2), 4);
        ToolCrib u = new ToolCrib();
        u.job(0b0011);
        u.job(0b0100);
        u.job(0b0010);
        D.is("0 is never wanted again: it goes", u.changes(orderOf(0, 1, 2), 2), 3);
        D.is("next want counts, not the last one", nextWant(), 8);
    }

    /** 0 is wanted next, and at the very end; 1 between: 1 goes. */
    private static int nextWant() {
        ToolCrib x = new ToolCrib();
        x.job(0b0000011);
        x.job(0b0000100);
        x.job(0b0001001);
        x.job(0b0010010);
        x.job(0b0100001);
        return x.changes(orderOf(0, 1, 2, 3, 4), 2);
    }

    private static void order(ToolCrib x, int r, int changes, int... jobs) {
        D.is("order(" + r + ", -1)", x.order(r, -1), changes);
        for (int i = 0; i < jobs.length; i++) {
            D.is("order(" + r + ", " + i + ")", x.order(r, i), jobs[i]);
        }
        D.is("order(" + r + ", behind)", x.order(r, jobs.length), ToolCrib.NONE);
        D.is("order(" + r + ", -2)", x.order(r, -2), ToolCrib.NONE);
    }

    private static void bestOrders() {
        ToolCrib x = new ToolCrib();
        D.is("r 0", x.order(0, 0), ToolCrib.BAD);
        D.is("r 10", x.order(10, -1), ToolCrib.BAD);
        D.is("r -1", x.order(-1, 0), ToolCrib.BAD);
        x.job(0b11);
        order(x, 2, 2, 0);
        order(x, 1, ToolCrib.NONE);
        x.job(0b1100);
        order(x, 2, 4, 0, 1);
        order(x, 4, 4, 0, 1);
        x.job(0b11);
        order(x, 2, 4, 0, 2, 1);
        order(x, 4, 4, 0, 1, 2);
        x.job(0b1100);
        order(x, 2, 4, 0, 2, 1, 3);
        order(x, 3, 4, 0, 2, 1, 3);
        x.job(0b110);
        order(x, 2, 4, 0, 2, 4, 1, 3);
        order(x, 9, 4, 0, 1, 2, 3, 4);
        x.job(0b11111 << 5);
        order(x, 4, ToolCrib.NONE);
        order(x, 9, 9, 0, 1, 2, 3, 4, 5);
        D.is("changes do not touch the order", x.changes(orderOf(5, 4, 3, 2, 1, 0), 9), 9);
        order(x, 9, 9, 0, 1, 2, 3, 4, 5);
    }

    /** The order's CHANGES are the least of all that changes tells, and it is the first of them by numbers. */
    private static void bestOfAll() {
        int[][] wants = {
            {0b1011, 0b110100, 0b1000001, 0b10110, 0b1100000, 0b1001},
            {0b1000000001, 0b110000000, 0b1000010000, 0b1110, 0b1, 0b10100},
            {0b111, 0b111000, 0b111, 0b111000, 0b10101, 0b101010},
            {1, 2, 4, 2, 1, 4},
        };
        for (int[] some : wants) {
            for (int r = 3; r <= 9; r++) {
                ToolCrib x = new ToolCrib();
                for (int w : some) {
                    x.job(w);
                }
                int least = Integer.MAX_VALUE;
                int[] first = new int[6];
                for (int n = 0; n < 46656; n++) {
                    int[] jobs = {n / 7776, n / 1296 % 6, n / 216 % 6, n / 36 % 6, n / 6 % 6, n % 6};
                    int c = x.changes(orderOf(jobs), r);
                    if (c >= 0 && c < least) {
                        least = c;
                        first = jobs;
                    }
                }
                order(x, r, least, first);
            }
        }
    }
}
