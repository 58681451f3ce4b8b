/** Promise 19. */
public final class StatisticsTest {
    private static final Check CHECK = new Check();
    private static final int NONE = TransitRows.NONE;

    public static void main(String[] args) {
        ofNone();
        ofSome();
        onlyArrivedOfThatWay();
        refused();
        CHECK.end();
    }

    private static void dueStatistics(TransitRows rows, int from, int to, int many, int days, int most) {
        CHECK.due("statistics(" + from + ", " + to + ", 0)", rows.statistics(from, to, 0), many);
        CHECK.due("statistics(" + from + ", " + to + ", 1)", rows.statistics(from, to, 1), days);
        CHECK.due("statistics(" + from + ", " + to + ", 2)", rows.statistics(from, to, 2), most);
    }

    private static void dueThrow(TransitRows rows, int from, int to) {
        boolean thrown = false;
        try {
            rows.statistics(from, to, 3);
        } catch (ArithmeticException e) {
            thrown = true;
        }
        CHECK.due("statistics(" + from + ", " + to + ", 3) throws", thrown, true);
    }

    private static void ofNone() {
        TransitRows rows = Worlds.withRoute(0, 9, 2);
        rows.send(1, 1, 0);
        rows.send(2, 1, 0);
        rows.load(0, 1);
        rows.arrive(1, 0, 1);
        rows.lost(60);
        dueStatistics(rows, 0, 1, 0, 0, NONE);
        dueThrow(rows, 0, 1);
        dueStatistics(rows, 0, 0, 0, 0, NONE);
        dueThrow(rows, 0, 0);
    }

    private static void ofSome() {
        TransitRows rows = Worlds.withRoute(0, 9, 3);
        rows.send(1, 1, 0);
        rows.send(2, 1, 1);
        rows.send(3, 1, 2);
        rows.load(0, 5);
        rows.arrive(1, 1, 6);
        dueStatistics(rows, 0, 1, 1, 6, 6);
        CHECK.due("divided", rows.statistics(0, 1, 3), 6);
        rows.arrive(2, 1, 30);
        dueStatistics(rows, 0, 1, 2, 35, 29);
        CHECK.due("divided, cut", rows.statistics(0, 1, 3), 17);
        rows.arrive(3, 1, 5);
        dueStatistics(rows, 0, 1, 3, 38, 29);
        CHECK.due("divided, cut", rows.statistics(0, 1, 3), 12);
        rows.route(1, 0, 127, 0, 9);
        rows.priority(1, true);
        rows.send(1, 0, 40);
        rows.load(1, 40);
        rows.arrive(4, 0, 40);
        dueStatistics(rows, 1, 0, 1, 0, 0);
        CHECK.due("no days at all", rows.statistics(1, 0, 3), 0);
    }

    private static void onlyArrivedOfThatWay() {
        TransitRows rows = Worlds.withPlaces(3);
        rows.route(0, 1, 127, 9, 9);
        rows.route(0, 2, 127, 0, 9);
        rows.route(0, 1, 1, 0, 9);
        Worlds.addCopies(rows, 0, 5);
        rows.send(1, 1, 0);
        rows.send(2, 2, 0);
        rows.send(3, 1, 7);
        rows.send(4, 2, 0);
        rows.send(5, 2, 0);
        rows.load(0, 8);
        rows.load(1, 8);
        rows.load(2, 14);
        rows.arrive(1, 1, 14);
        rows.arrive(2, 2, 8);
        rows.arrive(3, 1, 16);
        rows.arrive(4, 1, 90);
        dueStatistics(rows, 0, 1, 2, 23, 14);
        CHECK.due("by whatever route", rows.statistics(0, 1, 3), 11);
        dueStatistics(rows, 0, 2, 1, 8, 8);
        dueStatistics(rows, 1, 0, 0, 0, NONE);
        dueThrow(rows, 1, 2);
    }

    private static void refused() {
        TransitRows rows = Worlds.withRoute(0, 9, 1);
        for (int what : new int[] {4, -1, Integer.MAX_VALUE, Integer.MIN_VALUE}) {
            CHECK.due("statistics(0, 1, " + what + ")", rows.statistics(0, 1, what), NONE);
        }
        for (int what = 0; what < 4; what++) {
            for (int none : new int[] {-1, 2, 12, Integer.MAX_VALUE, Integer.MIN_VALUE}) {
                CHECK.due("statistics(" + none + ", 1, " + what + ")", rows.statistics(none, 1, what), NONE);
                CHECK.due("statistics(0, " + none + ", " + what + ")", rows.statistics(0, none, what), NONE);
            }
        }
    }
}
