/** Promises 24 to 26 with ordinary JOBS; their bounds are in JobsBoundsTest. */
public final class JobsTest {
    private static final Due D = new Due("JobsTest");
    /** An object is used for at most so many calls. */
    private static final int CALLS = 512;

    public static void main(String[] args) {
        changes();
        wantedAgainLast();
        neverAgain();
        nextWantCounts();
        bestOrders();
        bestOfAll();
        D.end();
    }

    /** Promise 25: what a JOB wants and isn't there counts 1. */
    private static void changes() {
        ToolCrib x = Cribs.wanting(0b11111, 0b100001, 0b11111);
        D.is("0 1 2 with 5", x.changes(Cribs.orderOf(0, 1, 2), 5), 7);
        D.is("0 1 2 with 6", x.changes(Cribs.orderOf(0, 1, 2), 6), 6);
        D.is("0 2 1 with 5", x.changes(Cribs.orderOf(0, 2, 1), 5), 6);
        D.is("1 0 2 with 5", x.changes(Cribs.orderOf(1, 0, 2), 5), 6);
        ToolCrib y = Cribs.wanting(3, 12, 3);
        D.is("0 1 2 with 2", y.changes(Cribs.orderOf(0, 1, 2), 2), 6);
        D.is("0 1 2 with 9", y.changes(Cribs.orderOf(0, 1, 2), 9), 4);
        D.is("0 2 1 with 2", y.changes(Cribs.orderOf(0, 2, 1), 2), 4);
    }

    /** Promise 25: out goes what a later JOB wants again last, which shows in what the later ones cost. */
    private static void wantedAgainLast() {
        ToolCrib x = Cribs.wanting(0b00111, 0b01000, 0b00001, 0b00010, 0b00100);
        D.is("2 is wanted last: it goes", x.changes(Cribs.orderOf(0, 1, 2, 3, 4), 3), 5);
        D.is("0 is wanted last: it goes", x.changes(Cribs.orderOf(0, 1, 4, 3, 2), 3), 5);
        D.is("0 is wanted behind 1: it goes", Cribs.wanting(0b0011, 0b0100, 0b0110, 0b0001).changes(Cribs.orderOf(0, 1, 2, 3), 2), 4);
        D.is("1 is wanted behind 0: it goes", Cribs.wanting(0b0011, 0b0100, 0b0101, 0b0010).changes(Cribs.orderOf(0, 1, 2, 3), 2), 4);
    }

    /** Promise 25: never again: last of all. */
    private static void neverAgain() {
        ToolCrib x = Cribs.wanting(0b00111, 0b11000, 0b00011, 0b01001);
        D.is("never again goes ahead of all", x.changes(Cribs.orderOf(0, 1, 2, 3), 4), 5);
        D.is("with 3: 2 and 1 go, 4 then, nothing", x.changes(Cribs.orderOf(0, 1, 2, 3), 3), 6);
        D.is("0 2 1 3 with 3", x.changes(Cribs.orderOf(0, 2, 1, 3), 3), 5);
    }

    /** Promise 25: 0 is wanted next, and at the very end; 1 between: 1 goes. */
    private static void nextWantCounts() {
        ToolCrib x = Cribs.wanting(0b0000011, 0b0000100, 0b0001001, 0b0010010, 0b0100001);
        D.is("next want counts, not the last one", x.changes(Cribs.orderOf(0, 1, 2, 3, 4), 2), 8);
    }

    private static void best(ToolCrib x, int r, int changes, int... jobs) {
        D.is("order(" + r + ", -1)", x.order(r, -1), changes);
        for (int i = 0; i < jobs.length; i++) {
            D.is("order(" + r + ", " + i + ")", x.order(r, i), jobs[i]);
        }
    }

    /** Promise 26: THE ORDER as more JOBS come. */
    private static void bestOrders() {
        ToolCrib x = Cribs.wanting(0b11, 0b1100, 0b11, 0b1100);
        best(x, 2, 4, 0, 2, 1, 3);
        best(x, 3, 4, 0, 2, 1, 3);
        x.job(0b110);
        best(x, 2, 4, 0, 2, 4, 1, 3);
        best(x, 9, 4, 0, 1, 2, 3, 4);
        x.job(0b11111 << 5);
        best(x, 9, 9, 0, 1, 2, 3, 4, 5);
    }

    /** Promises 25 and 26: THE ORDER is the first of those with the fewest CHANGES of all 720 that changes tells. */
    private static void bestOfAll() {
        int[][] wants = {
            {0b1011, 0b110100, 0b1000001, 0b10110, 0b1100000, 0b1001},
            {0b1000000001, 0b110000000, 0b1000010000, 0b1110, 0b1, 0b10100},
            {0b111, 0b111000, 0b111, 0b111000, 0b10101, 0b101010},
            {1, 2, 4, 2, 1, 4},
        };
        for (int[] some : wants) {
            for (int r = 3; r <= 9; r++) {
                bestOfAll(some, r);
            }
        }
    }

    private static void bestOfAll(int[] wants, int r) {
        ToolCrib x = Cribs.wanting(wants);
        int calls = wants.length;
        int least = Integer.MAX_VALUE;
        int[] first = new int[6];
        for (int n = 0; n < 46656; n++) {
            int[] jobs = {n / 7776, n / 1296 % 6, n / 216 % 6, n / 36 % 6, n / 6 % 6, n % 6};
            int seen = 0;
            for (int j : jobs) {
                seen |= 1 << j;
            }
            if (seen != 63) {
                continue;
            }
            if (calls == CALLS) {
                x = Cribs.wanting(wants);
                calls = wants.length;
            }
            int c = x.changes(Cribs.orderOf(jobs), r);
            calls++;
            if (c >= 0 && c < least) {
                least = c;
                first = jobs;
            }
        }
        best(Cribs.wanting(wants), r, least, first);
    }
}
