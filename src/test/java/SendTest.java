/** Promise 9, and of the terms: how a copy is SENT. */
public final class SendTest {
    private static final Check CHECK = new Check();
    private static final int CLOSED = TransitRows.CLOSED;
    private static final int NO_ROUTE = TransitRows.NO_ROUTE;
    private static final int LAST_DAY = Numbers.LAST_DAY;

    public static void main(String[] args) {
        fromTheDayIfPriority();
        elseFromTheNextDay();
        theRouteThatComesFirst();
        ofSeveralTheLeastNumber();
        noSuchCopy();
        noSuchPlace();
        noSuchDay();
        itHasASlip();
        itStandsThere();
        aHundredAndFifty();
        closed();
        zeroBeforeClosed();
        closedBeginning();
        noRoute();
        noRouteOnTheLastDay();
        noRouteByTheLastMask();
        anotherRouteRunsToTheLastDay();
        itMayComeBehindTheLastDay();
        aRefusedOneTakesNoNumber();
        CHECK.end();
    }

    /** "it goes on the first day on which the route RUNS, from the day on which it was sent if it is PRIORITY" */
    private static void fromTheDayIfPriority() {
        TransitRows rows = Worlds.withMask(1 << 3);
        Worlds.addCopies(rows, 0, 4);
        for (int copy = 1; copy <= 4; copy++) {
            rows.priority(copy, true);
        }
        CHECK.due("on the day of the route", rows.slip(rows.send(1, 1, 3), 4), 3);
        CHECK.due("on the day before", rows.slip(rows.send(2, 1, 2), 4), 3);
        CHECK.due("on the day behind", rows.slip(rows.send(3, 1, 4), 4), 10);
        rows.skip(0, 3, true);
        CHECK.due("on the day of the route, left out", rows.slip(rows.send(4, 1, 3), 4), 10);
        rows.priority(1, false);
        CHECK.due("what it is later leaves the day to go", rows.slip(1, 4), 3);
    }

    /** "else from the next one" */
    private static void elseFromTheNextDay() {
        TransitRows rows = Worlds.withMask(1 << 3);
        Worlds.addCopies(rows, 0, 4);
        CHECK.due("on the day of the route", rows.slip(rows.send(1, 1, 3), 4), 10);
        CHECK.due("on the day before", rows.slip(rows.send(2, 1, 2), 4), 3);
        CHECK.due("on the day behind", rows.slip(rows.send(3, 1, 4), 4), 10);
        rows.skip(0, 3, true);
        rows.skip(0, 10, true);
        CHECK.due("on the day before, left out twice", rows.slip(rows.send(4, 1, 2), 4), 17);
        rows.priority(1, true);
        CHECK.due("what it is later leaves the day to go", rows.slip(1, 4), 10);
    }

    /** Routes 3 (5 days), 4 (day 4, 2 days) and 5 (day 3, 3 days) from 0 to 1 among others; copies 1 .. 4 at 0. */
    private static TransitRows withThreeRoutes() {
        TransitRows rows = Worlds.withPlaces(3);
        rows.route(0, 2, 127, 0, 9);
        rows.route(2, 1, 127, 0, 9);
        rows.route(1, 0, 127, 0, 9);
        rows.route(0, 1, 127, 5, 9);
        rows.route(0, 1, 1 << 4, 2, 9);
        rows.route(0, 1, 1 << 3, 3, 9);
        Worlds.addCopies(rows, 0, 4);
        return rows;
    }

    /** "by the route from where it stands to that place that comes there first" */
    private static void theRouteThatComesFirst() {
        TransitRows rows = withThreeRoutes();
        rows.priority(1, true);
        rows.send(1, 1, 0);
        CHECK.dueSlip(rows, 1, 1, 3, 0, 0, 0, 5);
        rows.skip(4, 4, true);
        rows.send(2, 1, 1);
        CHECK.dueSlip(rows, 2, 2, 5, 0, 1, 3, 6);
        rows.send(3, 1, 3);
        CHECK.dueSlip(rows, 3, 3, 3, 0, 3, 4, 9);
        rows.skip(4, 4, false);
        rows.send(4, 1, 3);
        CHECK.dueSlip(rows, 4, 4, 4, 0, 3, 4, 6);
    }

    /** "of several the one with the least number" */
    private static void ofSeveralTheLeastNumber() {
        TransitRows rows = withThreeRoutes();
        rows.send(1, 1, 0);
        CHECK.due("all three come on day 6", rows.slip(1, 1), 3);
        rows.send(2, 1, 1);
        CHECK.due("4 and 5 come on day 6, 3 comes later", rows.slip(2, 1), 4);
        CHECK.due("it goes on day 4", rows.slip(2, 4), 4);
    }

    /** "0 if there is no such copy" */
    private static void noSuchCopy() {
        for (int many : new int[] {0, 1, 60}) {
            TransitRows rows = Worlds.withRoute(0, 1, many);
            CHECK.dueEach("send(#, 1, 0)", 0, n -> rows.send(n, 1, 0), Numbers.beyond(1, many));
            CHECK.due("there is no slip", rows.slip(1, 0), TransitRows.NONE);
        }
        TransitRows rows = Worlds.withRoute(0, 1, 60);
        CHECK.due("the last copy", rows.send(60, 1, 0), 1);
        CHECK.due("the first copy", rows.send(1, 1, 0), 2);
    }

    /** "0 if there is no such .. place" */
    private static void noSuchPlace() {
        for (int many : new int[] {2, 12}) {
            TransitRows rows = Worlds.withPlaces(many);
            rows.route(0, many - 1, 127, 0, 1);
            rows.copy(0);
            CHECK.dueEach("send(1, #, 0)", 0, n -> rows.send(1, n, 0), Numbers.beyond(0, many - 1));
            CHECK.due("the last place", rows.send(1, many - 1, 0), 1);
        }
    }

    /** "0 if there is no such .. day" */
    private static void noSuchDay() {
        TransitRows rows = Worlds.withRoute(0, 1, 2);
        rows.priority(1, true);
        CHECK.dueEach("send(1, 1, #)", 0, n -> rows.send(1, 1, n), Numbers.NO_DAYS);
        CHECK.dueEach("send(2, 1, #)", 0, n -> rows.send(2, 1, n), Numbers.NO_DAYS);
        CHECK.due("the last day", rows.send(1, 1, LAST_DAY), 1);
        CHECK.due("the first day", rows.send(2, 1, 0), 2);
    }

    /** "it has a slip": "while that is WAITING, LOADED or LOST" */
    private static void itHasASlip() {
        TransitRows rows = Worlds.withEveryState();
        rows.route(1, 2, 127, 0, 1);
        rows.route(0, 2, 127, 0, 1);
        rows.route(2, 1, 127, 0, 1);
        CHECK.due("WAITING", rows.send(Worlds.WAITING, 2, 200), 0);
        CHECK.due("LOADED", rows.send(Worlds.LOADED, 2, 200), 0);
        CHECK.due("LOST", rows.send(Worlds.LOST, 2, 200), 0);
        CHECK.due("WAITING, to the same place", rows.send(Worlds.WAITING, 1, 200), 0);
        CHECK.due("WAITING, to where it was", rows.send(Worlds.WAITING, 0, 200), 0);
        CHECK.due("ARRIVED", rows.send(Worlds.ARRIVED, 2, 200), 7);
        CHECK.due("WRONG", rows.send(Worlds.WRONG, 1, 200), 8);
        CHECK.due("BACK", rows.send(Worlds.BACK, 2, 200), 9);
    }

    /** "it stands there" */
    private static void itStandsThere() {
        TransitRows rows = Worlds.withEveryState();
        rows.route(1, 0, 127, 0, 1);
        CHECK.due("at its home", rows.send(7, 0, 200), 0);
        CHECK.due("where it came", rows.send(Worlds.ARRIVED, 1, 200), 0);
        CHECK.due("where it came wrongly", rows.send(Worlds.WRONG, 2, 200), 0);
        CHECK.due("where it was taken out of the bin", rows.send(Worlds.BACK, 0, 200), 0);
        CHECK.due("home from where it came", rows.send(Worlds.ARRIVED, 0, 200), 7);
    }

    /** "or there are 150", in whatever state */
    private static void aHundredAndFifty() {
        TransitRows rows = Worlds.withRoute(0, 1, 3);
        Worlds.addSlips(rows, 149);
        CHECK.due("the 149th is the last", rows.slip(150, 0), TransitRows.NONE);
        CHECK.due("the 150th", rows.send(2, 1, 0), 150);
        CHECK.due("the 151st", rows.send(3, 1, 0), 0);
        CHECK.due("there is no 151st", rows.slip(151, 0), TransitRows.NONE);
        CHECK.dueWhere(rows, 3, 0, 0, 0);
        rows.back(150);
        CHECK.due("the 151st, none of the 150 is WAITING", rows.send(3, 1, 0), 0);
        CHECK.dueSlip(rows, 150, 2, 0, 5, 0, 1, 1, TransitRows.NONE);
        CHECK.dueSlip(rows, 1, 1, 0, 5, 0, 1, 1, TransitRows.NONE);
    }

    /** "CLOSED if the place that it is sent to is" */
    private static void closed() {
        TransitRows rows = Worlds.withPlaces(3);
        rows.route(0, 1, 127, 0, 1);
        rows.copy(0);
        rows.open(1, false);
        CHECK.due("closed", rows.send(1, 1, 0), CLOSED);
        rows.open(2, false);
        CHECK.due("closed, and no route", rows.send(1, 2, 0), CLOSED);
        CHECK.due("closed, and none RUNS any more", rows.send(1, 1, LAST_DAY), CLOSED);
        CHECK.due("there is no slip", rows.slip(1, 0), TransitRows.NONE);
        CHECK.dueWhere(rows, 1, 0, 0, 0);
        rows.open(1, true);
        CHECK.due("open again", rows.send(1, 1, 0), 1);
    }

    private static void zeroBeforeClosed() {
        TransitRows rows = Worlds.withWaiting(1, 1);
        rows.copy(0);
        rows.copy(1);
        rows.open(1, false);
        CHECK.due("no such copy", rows.send(4, 1, 0), 0);
        CHECK.due("no such day", rows.send(2, 1, -1), 0);
        CHECK.due("it has a slip", rows.send(1, 1, 0), 0);
        CHECK.due("it stands there", rows.send(3, 1, 0), 0);
        rows.open(1, true);
        rows.back(1);
        Worlds.addSlips(rows, 149);
        rows.open(1, false);
        CHECK.due("there are 150", rows.send(2, 1, 0), 0);
    }

    private static void closedBeginning() {
        TransitRows rows = Worlds.withRoute(0, 1, 1);
        rows.open(0, false);
        CHECK.due("from a closed place", rows.send(1, 1, 0), 1);
    }

    /** "No route goes there." */
    private static void noRoute() {
        TransitRows rows = Worlds.withPlaces(4);
        rows.route(1, 0, 127, 0, 1);
        rows.route(0, 2, 127, 0, 1);
        rows.route(2, 1, 127, 0, 1);
        rows.copy(0);
        rows.copy(1);
        CHECK.due("only the way back, and round about", rows.send(1, 1, 0), NO_ROUTE);
        CHECK.due("no route at all", rows.send(1, 3, 0), NO_ROUTE);
        CHECK.due("from elsewhere", rows.send(2, 2, 0), NO_ROUTE);
        CHECK.due("there is no slip", rows.slip(1, 0), TransitRows.NONE);
        CHECK.dueWhere(rows, 1, 0, 0, 0);
        rows.route(0, 1, 127, 0, 1);
        CHECK.due("a route that came later", rows.send(1, 1, 0), 1);
    }

    /** "NO_ROUTE, also if none RUNS to the last day" */
    private static void noRouteOnTheLastDay() {
        TransitRows rows = Worlds.withRoute(0, 9, 3);
        CHECK.due("not PRIORITY on the last day", rows.send(1, 1, LAST_DAY), NO_ROUTE);
        CHECK.dueWhere(rows, 1, 0, 0, 0);
        CHECK.due("not PRIORITY on the day before", rows.send(1, 1, LAST_DAY - 1), 1);
        CHECK.due("it goes on the last day", rows.slip(1, 4), LAST_DAY);
        rows.priority(2, true);
        CHECK.due("PRIORITY on the last day", rows.send(2, 1, LAST_DAY), 2);
        CHECK.due("it goes on the last day", rows.slip(2, 4), LAST_DAY);
        rows.back(2);
        rows.skip(0, LAST_DAY, true);
        CHECK.due("PRIORITY, the last day is left out", rows.send(2, 1, LAST_DAY), NO_ROUTE);
        CHECK.due("not PRIORITY, the last day is left out", rows.send(3, 1, LAST_DAY - 1), NO_ROUTE);
        CHECK.due("the day before is not", rows.send(3, 1, LAST_DAY - 2), 3);
        CHECK.due("it goes on that day", rows.slip(3, 4), LAST_DAY - 1);
    }

    /** The last day but one is bit 3 of a mask. */
    private static void noRouteByTheLastMask() {
        TransitRows rows = Worlds.withMask(1 << 3);
        Worlds.addCopies(rows, 0, 2);
        rows.priority(1, true);
        CHECK.due("PRIORITY on the last day", rows.send(1, 1, LAST_DAY), NO_ROUTE);
        CHECK.due("PRIORITY on the last day but one", rows.send(1, 1, LAST_DAY - 1), 1);
        CHECK.due("it goes on that day", rows.slip(1, 4), LAST_DAY - 1);
        CHECK.due("not PRIORITY on the last day but one", rows.send(2, 1, LAST_DAY - 1), NO_ROUTE);
        CHECK.due("not PRIORITY on the day before", rows.send(2, 1, LAST_DAY - 2), 2);
        CHECK.due("it goes on the last day but one", rows.slip(2, 4), LAST_DAY - 1);
    }

    private static void anotherRouteRunsToTheLastDay() {
        TransitRows rows = Worlds.withPlaces(2);
        rows.route(0, 1, 1 << 3, 0, 1);
        rows.route(0, 1, 1 << 4, 30, 1);
        rows.route(0, 1, 1 << 2, 0, 1);
        rows.copy(0);
        CHECK.due("routes 0 and 2 run no more", rows.send(1, 1, LAST_DAY - 1), 1);
        CHECK.due("by route 1", rows.slip(1, 1), 1);
    }

    private static void itMayComeBehindTheLastDay() {
        TransitRows rows = Worlds.withRoute(30, 9, 1);
        CHECK.due("send", rows.send(1, 1, LAST_DAY - 1), 1);
        CHECK.due("when it comes", rows.slip(1, 5), LAST_DAY + 30);
        CHECK.due("load", rows.load(0, LAST_DAY), 1);
        CHECK.dueLoaded(rows, 1, 1);
        CHECK.due("it comes before", rows.arrive(1, 1, LAST_DAY), 1);
    }

    private static void aRefusedOneTakesNoNumber() {
        TransitRows rows = Worlds.withRoute(0, 1, 2);
        rows.send(3, 1, 0);
        rows.send(1, 2, 0);
        rows.send(1, 1, -1);
        rows.send(1, 0, 0);
        rows.send(1, 1, LAST_DAY);
        rows.open(1, false);
        rows.send(1, 1, 0);
        rows.open(1, true);
        CHECK.due("the first", rows.send(1, 1, 0), 1);
        rows.send(1, 1, 0);
        CHECK.due("the second", rows.send(2, 1, 0), 2);
        CHECK.dueSlip(rows, 1, 1, 0, 0, 0, 1, 1, TransitRows.NONE);
    }
}
