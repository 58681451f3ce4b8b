/** Promises 4 and 5. */
public final class RoutesTest {
    private static final Check CHECK = new Check();
    private static final int NONE = TransitRows.NONE;

    public static void main(String[] args) {
        rangesOfARoute();
        closedPlacesHaveRoutes();
        fortyRoutes();
        skipTellsWhetherItChanges();
        skipRefusesWhatIsNotThere();
        skippedDaysDoNotRun();
        skipIsOfOneRoute();
        sixtyDaysLeftOut();
        CHECK.end();
    }

    private static void rangesOfARoute() {
        TransitRows rows = Worlds.withPlaces(3);
        CHECK.due("the least", rows.route(0, 1, 1, 0, 1), 0);
        CHECK.due("the most", rows.route(2, 0, 127, 30, 99), 1);
        CHECK.due("from -1", rows.route(-1, 1, 1, 0, 1), NONE);
        CHECK.due("from 3", rows.route(3, 1, 1, 0, 1), NONE);
        CHECK.due("to -1", rows.route(0, -1, 1, 0, 1), NONE);
        CHECK.due("to 3", rows.route(0, 3, 1, 0, 1), NONE);
        CHECK.due("both one", rows.route(1, 1, 1, 0, 1), NONE);
        CHECK.due("mask 0", rows.route(0, 1, 0, 0, 1), NONE);
        CHECK.due("mask -1", rows.route(0, 1, -1, 0, 1), NONE);
        CHECK.due("mask 128", rows.route(0, 1, 128, 0, 1), NONE);
        CHECK.due("duration -1", rows.route(0, 1, 1, -1, 1), NONE);
        CHECK.due("duration 31", rows.route(0, 1, 1, 31, 1), NONE);
        CHECK.due("room 0", rows.route(0, 1, 1, 0, 0), NONE);
        CHECK.due("room -1", rows.route(0, 1, 1, 0, -1), NONE);
        CHECK.due("room 100", rows.route(0, 1, 1, 0, 100), NONE);
        CHECK.due("a refused route takes no number", rows.route(0, 1, 1, 0, 1), 2);
    }

    private static void closedPlacesHaveRoutes() {
        TransitRows rows = Worlds.withPlaces(2);
        rows.open(0, false);
        rows.open(1, false);
        CHECK.due("a route of closed places", rows.route(0, 1, 1, 0, 1), 0);
    }

    private static void fortyRoutes() {
        TransitRows rows = Worlds.withPlaces(2);
        for (int i = 0; i < 40; i++) {
            CHECK.due("route", rows.route(i % 2, 1 - i % 2, 127, 0, 1), i);
        }
        CHECK.due("the 41st route", rows.route(0, 1, 127, 0, 1), NONE);
        CHECK.due("a load of the last", rows.load(39, 0), 1);
        CHECK.due("a load of one too many", rows.load(40, 0), 0);
        rows.copy(1);
        CHECK.due("send", rows.send(1, 0, 0), 1);
        CHECK.due("by the least number of twenty", rows.slip(1, 1), 1);
    }

    private static void skipTellsWhetherItChanges() {
        TransitRows rows = Worlds.withRoute(0, 1, 0);
        CHECK.due("runs already", rows.skip(0, 5, false), false);
        CHECK.due("left out", rows.skip(0, 5, true), true);
        CHECK.due("left out already", rows.skip(0, 5, true), false);
        CHECK.due("another day", rows.skip(0, 6, true), true);
        CHECK.due("runs again", rows.skip(0, 5, false), true);
        CHECK.due("runs again already", rows.skip(0, 5, false), false);
        CHECK.due("the other day still", rows.skip(0, 6, true), false);
        CHECK.due("the first day", rows.skip(0, 0, true), true);
        CHECK.due("the last day", rows.skip(0, 99999, true), true);
    }

    private static void skipRefusesWhatIsNotThere() {
        TransitRows rows = Worlds.withRoute(0, 1, 0);
        CHECK.due("day -1", rows.skip(0, -1, true), false);
        CHECK.due("day 100000", rows.skip(0, 100000, true), false);
        CHECK.due("route -1", rows.skip(-1, 5, true), false);
        CHECK.due("route 1", rows.skip(1, 5, true), false);
        CHECK.due("route max", rows.skip(Integer.MAX_VALUE, 5, true), false);
        CHECK.due("none of them counts", rows.skip(0, 5, true), true);
    }

    private static void skippedDaysDoNotRun() {
        TransitRows rows = Worlds.withPlaces(2);
        rows.route(0, 1, 2, 0, 1);
        rows.copy(0);
        rows.skip(0, 8, true);
        CHECK.due("load on a day left out", rows.load(0, 8), 0);
        CHECK.due("send", rows.send(1, 1, 2), 1);
        CHECK.due("day to go, behind the day left out", rows.slip(1, 4), 15);
        rows.skip(0, 8, false);
        CHECK.due("load when it runs again", rows.load(0, 8), 1);
        rows.skip(0, 9, true);
        rows.skip(0, 9, false);
        CHECK.due("it runs again by its mask alone", rows.load(0, 9), 0);
    }

    private static void skipIsOfOneRoute() {
        TransitRows rows = Worlds.withRoute(0, 1, 0);
        rows.route(0, 1, 127, 0, 1);
        CHECK.due("left out for route 0", rows.skip(0, 3, true), true);
        CHECK.due("load of route 1", rows.load(1, 3), 1);
        CHECK.due("load of route 0", rows.load(0, 3), 0);
        CHECK.due("left out for route 1", rows.skip(1, 3, true), true);
        CHECK.due("runs again for route 0", rows.skip(0, 3, false), true);
        CHECK.due("still left out for route 1", rows.skip(1, 3, true), false);
    }

    private static void sixtyDaysLeftOut() {
        TransitRows rows = Worlds.withRoute(0, 1, 0);
        rows.route(1, 0, 127, 0, 1);
        for (int i = 0; i < 60; i++) {
            CHECK.due("left out", rows.skip(i % 2, 10 + i, true), true);
        }
        CHECK.due("the 61st", rows.skip(0, 100, true), false);
        CHECK.due("the 61st is not left out", rows.load(0, 100), 1);
        CHECK.due("the 60th is", rows.load(1, 69), 0);
        CHECK.due("one runs again", rows.skip(0, 10, false), true);
        CHECK.due("room for one", rows.skip(1, 100, true), true);
        CHECK.due("room for no more", rows.skip(1, 101, true), false);
        CHECK.due("those before are left out still", rows.skip(1, 11, false), true);
    }
}
