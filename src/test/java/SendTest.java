/** Promises 9 and 17. */
public final class SendTest {
    private static final Check CHECK = new Check();
    private static final int NONE = TransitRows.NONE;

    public static void main(String[] args) {
        whatASlipTells();
        slipRefuses();
        theFirstDay();
        everyDayOfTheWeek();
        theRouteThatComesFirst();
        sendRefuses();
        closedOrNoRoute();
        theLastDay();
        aHundredAndFiftySlips();
        CHECK.end();
    }

    private static void dueSlip(TransitRows rows, int slip, int... want) {
        for (int what = 0; what < want.length; what++) {
            CHECK.due("slip(" + slip + ", " + what + ")", rows.slip(slip, what), want[what]);
        }
    }

    private static void whatASlipTells() {
        TransitRows rows = Worlds.withPlaces(3);
        rows.route(1, 0, 127, 3, 9);
        rows.route(0, 1, 127, 4, 1);
        Worlds.addCopies(rows, 0, 3);
        CHECK.due("send(2, 1, 10)", rows.send(2, 1, 10), 1);
        dueSlip(rows, 1, 2, 1, 0, 10, 11, 15, NONE);
        CHECK.due("send(3, 1, 10)", rows.send(3, 1, 10), 2);
        rows.back(2);
        dueSlip(rows, 2, 3, 1, 5, 10, 11, 15, NONE);
        rows.load(1, 20);
        dueSlip(rows, 1, 2, 1, 1, 10, 20, 24, NONE);
        rows.lost(39);
        dueSlip(rows, 1, 2, 1, 3, 10, 20, 24, NONE);
        rows.arrive(1, 1, 50);
        dueSlip(rows, 1, 2, 1, 2, 10, 20, 24, 50);
        rows.send(2, 0, 60);
        rows.load(0, 61);
        rows.arrive(3, 2, 62);
        dueSlip(rows, 3, 2, 0, 4, 60, 61, 64, 62);
    }

    private static void slipRefuses() {
        TransitRows rows = Worlds.withRoute(1, 1, 1);
        rows.send(1, 1, 0);
        CHECK.due("slip(1, 7)", rows.slip(1, 7), NONE);
        CHECK.due("slip(1, -1)", rows.slip(1, -1), NONE);
        for (int what = 0; what < 7; what++) {
            CHECK.due("slip(0, ..)", rows.slip(0, what), NONE);
            CHECK.due("slip(2, ..)", rows.slip(2, what), NONE);
            CHECK.due("slip(-1, ..)", rows.slip(-1, what), NONE);
            CHECK.due("slip(max, ..)", rows.slip(Integer.MAX_VALUE, what), NONE);
        }
    }

    private static void theFirstDay() {
        TransitRows rows = Worlds.withPlaces(2);
        rows.route(0, 1, 1 << 3, 0, 1);
        Worlds.addCopies(rows, 0, 4);
        rows.send(1, 1, 3);
        CHECK.due("not PRIORITY, on a day of the route", rows.slip(1, 4), 10);
        rows.send(2, 1, 2);
        CHECK.due("not PRIORITY, the day before", rows.slip(2, 4), 3);
        rows.priority(3, true);
        rows.send(3, 1, 3);
        CHECK.due("PRIORITY, on a day of the route", rows.slip(3, 4), 3);
        rows.priority(4, true);
        rows.send(4, 1, 4);
        CHECK.due("PRIORITY, the day behind", rows.slip(4, 4), 10);
        rows.priority(1, true);
        CHECK.due("PRIORITY later leaves the day to go", rows.slip(1, 4), 10);
    }

    private static void everyDayOfTheWeek() {
        for (int day = 0; day < 7; day++) {
            TransitRows rows = Worlds.withPlaces(2);
            rows.route(0, 1, 1 << day, 0, 1);
            rows.copy(0);
            rows.send(1, 1, 699);
            CHECK.due("day to go by bit " + day, rows.slip(1, 4), day == 0 ? 700 : 700 + day);
        }
    }

    private static void theRouteThatComesFirst() {
        TransitRows rows = Worlds.withPlaces(3);
        rows.route(0, 2, 127, 0, 9);
        rows.route(2, 1, 127, 0, 9);
        rows.route(1, 0, 127, 0, 9);
        rows.route(0, 1, 127, 5, 9);
        rows.route(0, 1, 1 << 4, 2, 9);
        rows.route(0, 1, 1 << 3, 3, 9);
        Worlds.addCopies(rows, 0, 4);
        rows.send(1, 1, 0);
        CHECK.due("5 days by route 3, before 6 by the others", rows.slip(1, 1), 3);
        rows.send(2, 1, 1);
        CHECK.due("of two that come on day 6 the least number", rows.slip(2, 1), 4);
        rows.skip(4, 4, true);
        rows.send(3, 1, 1);
        CHECK.due("route 4 is left out on that day", rows.slip(3, 1), 5);
        rows.send(4, 1, 3);
        CHECK.due("the next day is day 4", rows.slip(4, 1), 3);
        CHECK.due("it goes on day 4", rows.slip(4, 4), 4);
    }

    private static void sendRefuses() {
        TransitRows rows = Worlds.withRoute(0, 1, 2);
        CHECK.due("copy 0", rows.send(0, 1, 0), 0);
        CHECK.due("copy 3", rows.send(3, 1, 0), 0);
        CHECK.due("copy -1", rows.send(-1, 1, 0), 0);
        CHECK.due("place 2", rows.send(1, 2, 0), 0);
        CHECK.due("place -1", rows.send(1, -1, 0), 0);
        CHECK.due("day -1", rows.send(1, 1, -1), 0);
        CHECK.due("day 100000", rows.send(1, 1, 100000), 0);
        CHECK.due("day max", rows.send(1, 1, Integer.MAX_VALUE), 0);
        CHECK.due("it stands there", rows.send(1, 0, 0), 0);
        rows.open(0, false);
        CHECK.due("it stands there, and that is closed", rows.send(1, 0, 0), 0);
        CHECK.due("from a closed place", rows.send(1, 1, 0), 1);
        CHECK.due("it has a slip: WAITING", rows.send(1, 1, 0), 0);
        rows.open(1, false);
        CHECK.due("it has a slip, and the place is closed", rows.send(1, 1, 0), 0);
        rows.open(1, true);
        rows.load(0, 1);
        CHECK.due("it has a slip: LOADED", rows.send(1, 1, 2), 0);
        rows.lost(90);
        CHECK.due("it has a slip: LOST", rows.send(1, 1, 90), 0);
        CHECK.due("a refused one takes no number", rows.send(2, 1, 0), 2);
    }

    private static void closedOrNoRoute() {
        TransitRows rows = Worlds.withPlaces(3);
        rows.route(0, 1, 127, 0, 1);
        rows.copy(0);
        CHECK.due("no route", rows.send(1, 2, 0), TransitRows.NO_ROUTE);
        rows.open(2, false);
        CHECK.due("closed, and no route", rows.send(1, 2, 0), TransitRows.CLOSED);
        rows.open(1, false);
        CHECK.due("closed", rows.send(1, 1, 0), TransitRows.CLOSED);
        CHECK.due("closed, but no such day", rows.send(1, 1, -1), 0);
        CHECK.due("the copy has no slip", rows.where(1, 2), 0);
        rows.open(1, true);
        CHECK.due("open again", rows.send(1, 1, 0), 1);
    }

    private static void theLastDay() {
        TransitRows rows = Worlds.withRoute(30, 9, 3);
        CHECK.due("not PRIORITY on the last day", rows.send(1, 1, 99999), TransitRows.NO_ROUTE);
        CHECK.due("not PRIORITY on the day before", rows.send(1, 1, 99998), 1);
        CHECK.due("it goes on the last day", rows.slip(1, 4), 99999);
        CHECK.due("it comes behind the last day", rows.slip(1, 5), 100029);
        rows.priority(2, true);
        CHECK.due("PRIORITY on the last day", rows.send(2, 1, 99999), 2);
        rows.skip(0, 99999, true);
        CHECK.due("the last day is left out", rows.send(3, 1, 99998), TransitRows.NO_ROUTE);
        CHECK.due("the day before is not", rows.send(3, 1, 99997), 3);
    }

    private static void aHundredAndFiftySlips() {
        TransitRows rows = Worlds.withRoute(0, 1, 2);
        for (int i = 1; i <= 149; i++) {
            CHECK.due("send", rows.send(1, 1, 0), i);
            rows.back(i);
        }
        CHECK.due("the 150th", rows.send(1, 1, 0), 150);
        CHECK.due("the 151st", rows.send(2, 1, 0), 0);
        rows.open(1, false);
        CHECK.due("the 151st, to a closed place", rows.send(2, 1, 0), 0);
        CHECK.due("slip(150, 0)", rows.slip(150, 0), 1);
        CHECK.due("slip(151, 0)", rows.slip(151, 0), NONE);
    }
}
