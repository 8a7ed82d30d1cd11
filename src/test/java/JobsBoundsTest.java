import java.util.function.Supplier;

/** Promises 24 to 26: what the document says of their bounds, of the empty and the full, and of refused calls. */
public final class JobsBoundsTest {
    private static final Due D = new Due("JobsBoundsTest");
    private static final int[] NO_JOBS = {}, THREE = {7, 24, 7}, SIX = {1, 2, 4, 8, 16, 32};

    public static void main(String[] args) {
        everyWant();
        wantsRefused();
        jobsFull();
        ordersOfNoJobs();
        ordersOfOneJob();
        ordersOfThreeJobs();
        ordersOfSixJobs();
        ordersFarOutside();
        roomsOfChanges();
        noRoomForChanges();
        badAheadOfNoRoom();
        whatGoesOut();
        oneGoesOut();
        wantedAgainLast();
        orderWithoutJobs();
        roomsOfOrder();
        placesOfOrder();
        noRoomForOrder();
        orderOfAllRooms();
        firstByNumbers();
        orderThatBeginsLater();
        orderFollowsNewJobs();
        D.end();
    }

    /** Promise 24: bits of 0 .. 9, 1 to 5 of them: each number there is from -1 to 2048. */
    private static void everyWant() {
        for (int wants = -1; wants <= 2048; wants++) {
            boolean good = wants > 0 && wants < 1024 && Integer.bitCount(wants) <= 5;
            ToolCrib x = new ToolCrib();
            D.is("job(" + wants + ")", x.job(wants), good ? 0 : ToolCrib.BAD);
            D.is("count(3)", x.count(3), good ? 1 : 0);
        }
    }

    /** Promise 24: BAD: no FAMILY, six of them, one above 9; the sign's bit is none. */
    private static void wantsRefused() {
        int[] refused = {0, 63, 1023, 1024, 1024 + 1, -1, Integer.MIN_VALUE, Integer.MIN_VALUE + 1, Integer.MAX_VALUE, 1 << 30, 0x3f0};
        for (int wants : refused) {
            D.refused("job(" + wants + ")", Cribs::busy, x -> x.job(wants), ToolCrib.BAD);
            D.refused("job(" + wants + "), full", Cribs::full, x -> x.job(wants), ToolCrib.BAD);
        }
        for (int wants : new int[] {1, 512, 31, 992}) {
            D.is("job(" + wants + ")", Cribs.busy().job(wants), 3);
        }
    }

    /** Promise 24: 6 at most, numbered from 0 as they come. */
    private static void jobsFull() {
        ToolCrib x = new ToolCrib();
        for (int i = 0; i < 6; i++) {
            D.is("job: refused ahead of " + i, x.job(0), ToolCrib.BAD);
            D.is("job " + i, x.job(1 << i), i);
            D.is("count(3)", x.count(3), i + 1);
        }
        D.refused("job 6", Cribs::full, y -> y.job(1), ToolCrib.FULL);
        D.refused("job 6, five FAMILIES", Cribs::full, y -> y.job(992), ToolCrib.FULL);
    }

    private static void wrongOrder(int[] wants, long order) {
        D.refused("changes(" + order + ", 9)", () -> Cribs.wanting(wants), x -> x.changes(order, 9), ToolCrib.BAD);
    }

    /** Promise 25: without JOBS the order names each just once that names none. */
    private static void ordersOfNoJobs() {
        D.is("changes(0, 1)", Cribs.wanting().changes(0, 1), 0);
        D.is("changes(0, 9)", Cribs.wanting().changes(0, 9), 0);
        for (long order : new long[] {-1, 1, 6, Long.MIN_VALUE, Long.MAX_VALUE}) {
            wrongOrder(NO_JOBS, order);
        }
    }

    /** Promise 25: of one JOB the order 0 alone. */
    private static void ordersOfOneJob() {
        D.is("changes(0, 9)", Cribs.wanting(3).changes(0, 9), 2);
        for (long order : new long[] {-1, 1, 5, 6, 36, -6, 1L << 32}) {
            wrongOrder(new int[] {3}, order);
        }
    }

    /** Promise 25: it names each JOB just once: all orders of three JOBS there are, and all numbers of three digits that are none. */
    private static void ordersOfThreeJobs() {
        for (int order = 0; order < 216 * 6; order++) {
            int a = order % 6, b = order / 6 % 6, c = order / 36 % 6, d = order / 216;
            boolean good = (1 << a | 1 << b | 1 << c) == 7 && d == 0;
            D.is("changes(" + order + ", 9)", Cribs.wanting(THREE).changes(order, 9), good ? 5 : ToolCrib.BAD);
        }
        int[][] wrong = {{0, 1, 1}, {0, 1, 3}, {0, 1, 2, 1}, {0, 1, 2, 0, 1}};
        for (int[] digits : wrong) {
            wrongOrder(THREE, Cribs.orderOf(digits));
        }
    }

    /** Promise 25: all digits are used: the least order, the greatest, and those beside them. */
    private static void ordersOfSixJobs() {
        long greatest = Cribs.orderOf(0, 1, 2, 3, 4, 5);
        long least = Cribs.orderOf(5, 4, 3, 2, 1, 0);
        D.is("the greatest order", Cribs.wanting(SIX).changes(greatest, 9), 6);
        D.is("the least order", Cribs.wanting(SIX).changes(least, 9), 6);
        long[] wrong = {greatest + 1, greatest + 46656, greatest + (1L << 33), -greatest, least - 1, least + 1, -least,
            Cribs.orderOf(5, 5, 5, 5, 5, 5), Cribs.orderOf(0, 1, 2, 3, 4, 5, 0, 1), 46656, 0};
        for (long order : wrong) {
            wrongOrder(SIX, order);
        }
    }

    /** Promise 25: the order is a long: one below 0, and one of which the lowest 32 bits alone would do, is BAD. */
    private static void ordersFarOutside() {
        long good = Cribs.orderOf(0, 1, 2);
        long[] wrong = {-good, good - 216, good - 46656, good + (1L << 32), good + (1L << 40), good - (1L << 32), good + Long.MIN_VALUE,
            Long.MIN_VALUE, Long.MIN_VALUE + 1, Long.MAX_VALUE, Long.MAX_VALUE - 1, -1};
        for (long order : wrong) {
            wrongOrder(THREE, order);
        }
    }

    /** Promise 25: room for r FAMILIES, 1 .. 9. */
    private static void roomsOfChanges() {
        long order = Cribs.orderOf(0, 1, 2);
        D.ends("changes: r", Cribs::busy, (x, n) -> x.changes(order, n), Due.at(1, ToolCrib.NONE), Due.at(9, 5), ToolCrib.BAD);
        D.ends("changes: r, no JOBS", ToolCrib::new, (x, n) -> x.changes(0, n), Due.at(1, 0), Due.at(9, 0), ToolCrib.BAD);
        D.is("one FAMILY each, room for 1", Cribs.wanting(1, 2, 1).changes(order, 1), 3);
        D.is("one FAMILY each, room for 2", Cribs.wanting(1, 2, 1).changes(order, 2), 2);
    }

    /** Promise 25: NONE: there is no room: for r as many as a JOB wants there is, for one fewer not, wherever it stands. */
    private static void noRoomForChanges() {
        for (int wide = 2; wide <= 5; wide++) {
            int many = (1 << wide) - 1;
            for (int at = 0; at < 3; at++) {
                int[] wants = {1, 1, 1};
                wants[at] = many;
                D.is("as many as it wants", Cribs.wanting(wants).changes(Cribs.orderOf(0, 1, 2), wide) >= wide ? 1 : 0, 1);
                int r = wide - 1;
                D.refused("one fewer", () -> Cribs.wanting(wants), x -> x.changes(Cribs.orderOf(0, 1, 2), r), ToolCrib.NONE);
            }
        }
        D.is("five, room for 5", Cribs.wanting(992).changes(0, 5), 5);
        D.is("five, room for 4", Cribs.wanting(992).changes(0, 4), ToolCrib.NONE);
    }

    /** Promise 25: BAD is told of a wrong order and of r, where there is no room, too. */
    private static void badAheadOfNoRoom() {
        Supplier<ToolCrib> made = () -> Cribs.wanting(992, 31);
        D.refused("changes: no room, a wrong order", made, x -> x.changes(0, 1), ToolCrib.BAD);
        D.refused("changes: no room, a JOB twice", made, x -> x.changes(Cribs.orderOf(1, 1), 1), ToolCrib.BAD);
        D.refused("changes: no room, below 0", made, x -> x.changes(-1, 1), ToolCrib.BAD);
        D.refused("changes: no room for 0", made, x -> x.changes(Cribs.orderOf(0, 1), 0), ToolCrib.BAD);
        D.refused("changes: room for 10", made, x -> x.changes(Cribs.orderOf(0, 1), 10), ToolCrib.BAD);
        D.refused("changes: no room", made, x -> x.changes(Cribs.orderOf(0, 1), 4), ToolCrib.NONE);
    }

    /** Promise 25: each counts 1; what goes out never again is wanted goes ahead of what is. */
    private static void whatGoesOut() {
        D.is("like ones", Cribs.wanting(0b11, 0b100, 0b11).changes(Cribs.orderOf(0, 1, 2), 2), 4);
        D.is("like ones, room for 3", Cribs.wanting(0b11, 0b100, 0b11).changes(Cribs.orderOf(0, 1, 2), 3), 3);
        D.is("never again: the lower one", Cribs.wanting(0b11, 0b100, 0b10).changes(Cribs.orderOf(0, 1, 2), 2), 3);
        D.is("never again: the greater one", Cribs.wanting(0b11, 0b100, 0b01).changes(Cribs.orderOf(0, 1, 2), 2), 3);
        D.is("all go out", Cribs.wanting(0b11111, 0b1111100000, 0b11111).changes(Cribs.orderOf(0, 1, 2), 5), 15);
        D.is("one goes out", Cribs.wanting(0b11111, 0b1111100000, 0b11111).changes(Cribs.orderOf(0, 1, 2), 9), 11);
        D.is("FAMILY 9 is wanted again", Cribs.wanting(0b1000000001, 0b10, 0b1000000000).changes(Cribs.orderOf(0, 1, 2), 2), 3);
    }

    /** Promise 25: room for one FAMILY: what is there goes out, whichever of 0 .. 9 it is. */
    private static void oneGoesOut() {
        for (int f = 0; f < 10; f++) {
            for (int g = 0; g < 10; g++) {
                int due = f == g ? 1 : 3;
                D.is("FAMILIES " + f + " and " + g, Cribs.wanting(1 << f, 1 << g, 1 << f).changes(Cribs.orderOf(0, 1, 2), 1), due);
            }
        }
    }

    /** Promise 25: of two the one that is wanted again last goes out, whichever JOBS of the order want them, the last one, too. */
    private static void wantedAgainLast() {
        for (int soon = 2; soon < 6; soon++) {
            for (int late = soon + 1; late < 6; late++) {
                for (int f = 0; f < 2; f++) {
                    int[] wants = {3, 512, 512, 512, 512, 512};
                    wants[soon] = 1 << f;
                    wants[late] = 2 >> f;
                    D.is("wanted at " + soon + " and " + late, Cribs.wanting(wants).changes(Cribs.orderOf(0, 1, 2, 3, 4, 5), 2), 4);
                    wants[late] = 512;
                    D.is("wanted at " + soon + " and never", Cribs.wanting(wants).changes(Cribs.orderOf(0, 1, 2, 3, 4, 5), 2), 3);
                }
            }
        }
    }

    /** Promise 26: 0 CHANGES without JOBS, and no JOB at any place; BAD: r. */
    private static void orderWithoutJobs() {
        D.ends("order: r, no JOBS", ToolCrib::new, (x, n) -> x.order(n, -1), Due.at(1, 0), Due.at(9, 0), ToolCrib.BAD);
        for (int i : new int[] {0, 1, 5, 6, -2, Integer.MIN_VALUE, Integer.MAX_VALUE}) {
            D.refused("order(1, " + i + "), no JOBS", ToolCrib::new, x -> x.order(1, i), ToolCrib.NONE);
            D.refused("order(0, " + i + "), no JOBS", ToolCrib::new, x -> x.order(0, i), ToolCrib.BAD);
        }
    }

    /** Promise 26: r 1 .. 9; BAD is told of it, where there is no room or no such place, too. */
    private static void roomsOfOrder() {
        D.ends("order: r", Cribs::busy, (x, n) -> x.order(n, -1), Due.at(1, ToolCrib.NONE), Due.at(9, 5), ToolCrib.BAD);
        D.ends("order: r, six JOBS", Cribs::full, (x, n) -> x.order(n, -1), Due.at(1, 6), Due.at(9, 6), ToolCrib.BAD);
        D.outside("order: r, the first", Cribs::busy, (x, n) -> x.order(n, 0), 1, 9, ToolCrib.BAD);
        D.outside("order: r, none such", Cribs::busy, (x, n) -> x.order(n, 3), 1, 9, ToolCrib.BAD);
        D.outside("order: r, no room", () -> Cribs.wanting(992, 31), (x, n) -> x.order(n, -1), 1, 9, ToolCrib.BAD);
    }

    /** Promise 26: i = -1: CHANGES, else the i-th JOB; NONE: none such. */
    private static void placesOfOrder() {
        D.ends("order: i, three JOBS", Cribs::busy, (x, n) -> x.order(3, n), Due.at(-1, 5), Due.at(2, 1), ToolCrib.NONE);
        D.ends("order: i, six JOBS", Cribs::full, (x, n) -> x.order(9, n), Due.at(-1, 6), Due.at(5, 5), ToolCrib.NONE);
        D.ends("order: i, one JOB", () -> Cribs.wanting(3), (x, n) -> x.order(2, n), Due.at(-1, 2), Due.at(0, 0), ToolCrib.NONE);
        D.is("the first of one", Cribs.wanting(3).order(2, 0), 0);
    }

    /** Promise 26: NONE: no room, for CHANGES and for each place. */
    private static void noRoomForOrder() {
        for (int i = -2; i <= 6; i++) {
            int place = i;
            D.refused("order(4, " + i + "), no room", () -> Cribs.wanting(1, 2, 992), x -> x.order(4, place), ToolCrib.NONE);
        }
        D.is("room for 5", Cribs.wanting(1, 2, 992).order(5, -1), 7);
        D.is("the first", Cribs.wanting(1, 2, 992).order(5, 0), 0);
        D.is("the last", Cribs.wanting(1, 2, 992).order(5, 2), 2);
    }

    /** Promise 26: the fewest CHANGES there are, for each room, of six JOBS that want as much as they may. */
    private static void orderOfAllRooms() {
        int[] wants = {0b0000011111, 0b0000111110, 0b0001111100, 0b0011111000, 0b0111110000, 0b1111100000};
        for (int r = 1; r <= 9; r++) {
            ToolCrib x = Cribs.wanting(wants);
            D.is("order(" + r + ", -1)", x.order(r, -1), r < 5 ? ToolCrib.NONE : 10);
            for (int i = 0; i < 6; i++) {
                D.is("order(" + r + ", " + i + ")", x.order(r, i), r < 5 ? ToolCrib.NONE : i);
            }
        }
    }

    private static void best(ToolCrib x, int r, int changes, int... jobs) {
        D.is("order(" + r + ", -1)", x.order(r, -1), changes);
        for (int i = 0; i < jobs.length; i++) {
            D.is("order(" + r + ", " + i + ")", x.order(r, i), jobs[i]);
        }
    }

    /** Promise 26: of like ones the first by numbers: all alike, the last alone, one that must be turned round. */
    private static void firstByNumbers() {
        best(Cribs.wanting(1, 1, 1, 1, 1, 1), 1, 1, 0, 1, 2, 3, 4, 5);
        best(Cribs.wanting(1, 2, 4, 8, 16, 32), 1, 6, 0, 1, 2, 3, 4, 5);
        best(Cribs.wanting(7, 24, 7), 3, 5, 0, 2, 1);
        best(Cribs.wanting(1, 2, 4, 8, 16, 1), 1, 5, 0, 5, 1, 2, 3, 4);
        best(Cribs.wanting(2, 1, 2, 1), 1, 2, 0, 2, 1, 3);
        best(Cribs.wanting(1, 3, 2), 2, 2, 0, 1, 2);
    }

    /** Promise 26: the first JOB of the fewest CHANGES is another than 0: of two like orders the one with the lesser first. */
    private static void orderThatBeginsLater() {
        best(Cribs.wanting(0b11, 0b101, 0b1010), 2, 4, 1, 0, 2);
        best(Cribs.wanting(0b110, 0b1100, 0b11000, 0b110000, 0b11, 0b1100000), 2, 7, 4, 0, 1, 2, 3, 5);
    }

    /** Promise 26: THE ORDER of all JOBS: one that comes later is in it, a refused one isn't; CHANGES asked between leave it. */
    private static void orderFollowsNewJobs() {
        ToolCrib x = Cribs.wanting();
        best(x, 2, 0);
        x.job(0b11);
        best(x, 2, 2, 0);
        best(x, 1, ToolCrib.NONE);
        x.job(0b1100);
        best(x, 2, 4, 0, 1);
        D.is("a JOB that is refused", x.job(63), ToolCrib.BAD);
        D.is("changes", x.changes(Cribs.orderOf(1, 0), 9), 4);
        best(x, 2, 4, 0, 1);
        x.job(0b11);
        best(x, 2, 4, 0, 2, 1);
        D.is("none such", x.order(2, 3), ToolCrib.NONE);
        x.job(0b11111);
        best(x, 2, ToolCrib.NONE);
        D.is("no room", x.order(2, 0), ToolCrib.NONE);
    }
}
