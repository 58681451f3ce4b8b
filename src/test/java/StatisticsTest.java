/** Promise 19. */
public final class StatisticsTest {
    private static final Check CHECK = new Check();
    private static final int NONE = TransitRows.NONE;
    private static final int LAST_DAY = Numbers.LAST_DAY;

    public static void main(String[] args) {
        ofSome();
        ofNone();
        onlyArrived();
        ofThatWay();
        fromAPlaceToItself();
        noSuchPlace();
        noSuchPlaceOfTwelve();
        forAnotherWhat();
        noDaysAtAll();
        theMostDays();
        itThrowsAndGoesOn();
        CHECK.end();
    }

    private static void dueStatistics(TransitRows rows, int from, int to, int many, int days, int most) {
        String way = "statistics(" + from + ", " + to;
        CHECK.due(way + ", 0)", rows.statistics(from, to, 0), many);
        CHECK.due(way + ", 1)", rows.statistics(from, to, 1), days);
        CHECK.due(way + ", 2)", rows.statistics(from, to, 2), most);
    }

    /** None ARRIVED: "the most days of none, too"; "ArithmeticException of 3 if there are none" */
    private static void dueNone(TransitRows rows, int from, int to) {
        dueStatistics(rows, from, to, 0, 0, NONE);
        CHECK.dueThrow("statistics(" + from + ", " + to + ", 3)", () -> rows.statistics(from, to, 3));
    }

    /** "how many", "days in all from when they were SENT", "the most days", "days in all divided by how many, cut" */
    private static void ofSome() {
        TransitRows rows = Worlds.withRoute(0, 9, 3);
        rows.send(1, 1, 0);
        rows.send(2, 1, 1);
        rows.send(3, 1, 2);
        rows.load(0, 5);
        rows.arrive(1, 1, 6);
        dueStatistics(rows, 0, 1, 1, 6, 6);
        CHECK.due("6 by 1", rows.statistics(0, 1, 3), 6);
        rows.arrive(2, 1, 30);
        dueStatistics(rows, 0, 1, 2, 35, 29);
        CHECK.due("35 by 2", rows.statistics(0, 1, 3), 17);
        rows.arrive(3, 1, 5);
        dueStatistics(rows, 0, 1, 3, 38, 29);
        CHECK.due("38 by 3", rows.statistics(0, 1, 3), 12);
    }

    private static void ofNone() {
        dueNone(Worlds.withPlaces(2), 0, 1);
        dueNone(Worlds.withWaiting(9, 1), 0, 1);
        dueNone(Worlds.withEveryState(), 1, 0);
    }

    /** "Of slips .. that ARRIVED": in no other state */
    private static void onlyArrived() {
        TransitRows rows = Worlds.withEveryState();
        dueStatistics(rows, 0, 1, 1, 2, 2);
        dueNone(rows, 0, 2);
        TransitRows others = Worlds.withWaiting(3, 5);
        others.load(0, 1);
        others.arrive(1, 0, 1);
        others.lost(60);
        others.back(4);
        dueNone(others, 0, 1);
        others.arrive(2, 1, 61);
        dueStatistics(others, 0, 1, 1, 61, 61);
    }

    /** "from one place to another one", by whatever route and wherever the copy is at home */
    private static void ofThatWay() {
        TransitRows rows = Worlds.withPlaces(3);
        rows.route(0, 1, 127, 9, 9);
        rows.route(0, 2, 127, 0, 9);
        rows.route(0, 1, 1, 0, 9);
        Worlds.addCopies(rows, 0, 4);
        rows.send(1, 1, 0);
        rows.send(2, 2, 0);
        rows.skip(2, 14, true);
        rows.send(3, 1, 7);
        rows.send(4, 2, 0);
        rows.load(0, 8);
        rows.load(1, 8);
        rows.load(2, 7);
        rows.arrive(1, 1, 14);
        rows.arrive(2, 2, 8);
        rows.arrive(3, 1, 16);
        rows.arrive(4, 1, 90);
        CHECK.due("slip 1 by route 2", rows.slip(1, 1), 2);
        CHECK.due("slip 3 by route 0", rows.slip(3, 1), 0);
        dueStatistics(rows, 0, 1, 2, 23, 14);
        CHECK.due("23 by 2", rows.statistics(0, 1, 3), 11);
        dueStatistics(rows, 0, 2, 1, 8, 8);
        dueNone(rows, 1, 0);
        dueNone(rows, 1, 2);
        dueNone(rows, 2, 0);
    }

    private static void fromAPlaceToItself() {
        TransitRows rows = Worlds.withEveryState();
        dueNone(rows, 0, 0);
        dueNone(rows, 1, 1);
    }

    /** "NONE if there is no such place", also where 3 would throw */
    private static void noSuchPlace() {
        TransitRows rows = Worlds.withEveryState();
        for (int what = -1; what <= 4; what++) {
            int asked = what;
            int[] none = Numbers.beyond(0, 2);
            CHECK.dueEach("statistics(#, 1, " + what + ")", NONE, n -> rows.statistics(n, 1, asked), none);
            CHECK.dueEach("statistics(0, #, " + what + ")", NONE, n -> rows.statistics(0, n, asked), none);
            CHECK.dueEach("statistics(#, #, " + what + ")", NONE, n -> rows.statistics(n, n, asked), none);
        }
    }

    private static void noSuchPlaceOfTwelve() {
        TransitRows rows = Worlds.withPlaces(12);
        dueNone(rows, 0, 11);
        dueNone(rows, 11, 0);
        CHECK.dueEach("statistics(#, 0, 0)", NONE, n -> rows.statistics(n, 0, 0), Numbers.beyond(0, 11));
        CHECK.dueEach("statistics(0, #, 0)", NONE, n -> rows.statistics(0, n, 0), Numbers.beyond(0, 11));
        CHECK.dueEach("statistics(0, #, 3)", NONE, n -> rows.statistics(0, n, 3), Numbers.beyond(0, 11));
    }

    /** "or for another what" */
    private static void forAnotherWhat() {
        TransitRows rows = Worlds.withEveryState();
        CHECK.dueEach("statistics(0, 1, #)", NONE, n -> rows.statistics(0, 1, n), Numbers.beyond(0, 3));
        CHECK.dueEach("statistics(1, 0, #)", NONE, n -> rows.statistics(1, 0, n), Numbers.beyond(0, 3));
    }

    /** The most days of one that took none are 0, and not NONE. */
    private static void noDaysAtAll() {
        TransitRows rows = Worlds.withRoute(0, 9, 1);
        rows.priority(1, true);
        rows.send(1, 1, 40);
        rows.load(0, 40);
        rows.arrive(1, 1, 40);
        dueStatistics(rows, 0, 1, 1, 0, 0);
        CHECK.due("0 by 1", rows.statistics(0, 1, 3), 0);
    }

    private static void theMostDays() {
        TransitRows rows = Worlds.withWaiting(99, 60);
        rows.load(0, 1);
        for (int slip = 1; slip <= 60; slip++) {
            rows.arrive(slip, 1, LAST_DAY);
        }
        dueStatistics(rows, 0, 1, 60, 60 * LAST_DAY, LAST_DAY);
        CHECK.due("the same for each", rows.statistics(0, 1, 3), LAST_DAY);
    }

    private static void itThrowsAndGoesOn() {
        TransitRows rows = Worlds.withWaiting(9, 1);
        dueNone(rows, 0, 1);
        dueNone(rows, 0, 1);
        rows.load(0, 1);
        rows.arrive(1, 1, 4);
        CHECK.due("4 by 1", rows.statistics(0, 1, 3), 4);
    }
}
