/** Promise 4, and of the terms: ROUTES, DURATION and ROOM. */
public final class RouteTest {
    private static final Check CHECK = new Check();
    private static final int NONE = TransitRows.NONE;

    public static void main(String[] args) {
        noSuchPlaces();
        theFirstAndTheLastPlace();
        bothAreOne();
        theMask();
        duration();
        room();
        closedPlacesHaveRoutes();
        severalRoutesOfOneWay();
        noneIfThereAreForty();
        aRefusedOneTakesNoNumber();
        CHECK.end();
    }

    /** "NONE if there are no such places" */
    private static void noSuchPlaces() {
        for (int many : new int[] {2, 12}) {
            TransitRows rows = Worlds.withPlaces(many);
            int[] none = Numbers.beyond(0, many - 1);
            CHECK.dueEach("route(#, 1, 1, 0, 1)", NONE, n -> rows.route(n, 1, 1, 0, 1), none);
            CHECK.dueEach("route(0, #, 1, 0, 1)", NONE, n -> rows.route(0, n, 1, 0, 1), none);
            CHECK.dueEach("route(#, #, 1, 0, 1)", NONE, n -> rows.route(n, n, 1, 0, 1), none);
        }
    }

    private static void theFirstAndTheLastPlace() {
        TransitRows rows = Worlds.withPlaces(12);
        CHECK.due("route(0, 11, ..)", rows.route(0, 11, 127, 0, 1), 0);
        CHECK.due("route(11, 0, ..)", rows.route(11, 0, 127, 0, 1), 1);
        rows.copy(0);
        rows.copy(11);
        CHECK.due("from the first to the last", rows.slip(rows.send(1, 11, 0), 1), 0);
        CHECK.due("from the last to the first", rows.slip(rows.send(2, 0, 0), 1), 1);
    }

    /** "both are one" */
    private static void bothAreOne() {
        TransitRows rows = Worlds.withPlaces(12);
        CHECK.dueEach("route(#, #, 127, 0, 1)", NONE, n -> rows.route(n, n, 127, 0, 1), Numbers.fromTo(0, 11));
        CHECK.due("route(0, 1, ..)", rows.route(0, 1, 127, 0, 1), 0);
    }

    /** "the mask is not 1 .. 127" */
    private static void theMask() {
        TransitRows rows = Worlds.withPlaces(2);
        CHECK.dueEach("route(0, 1, #, 0, 1)", NONE, n -> rows.route(0, 1, n, 0, 1), Numbers.beyond(1, 127));
        CHECK.dueEach("route(0, 1, #, 0, 1)", NONE, n -> rows.route(0, 1, n, 0, 1), -1, 129, 255, 256 + 127);
        CHECK.due("route(0, 1, 1, 0, 1)", rows.route(0, 1, 1, 0, 1), 0);
        CHECK.due("route(0, 1, 127, 0, 1)", rows.route(0, 1, 127, 0, 1), 1);
    }

    /** "a DURATION, 0 .. 30 days" */
    private static void duration() {
        TransitRows rows = Worlds.withPlaces(3);
        CHECK.dueEach("route(0, 1, 1, #, 1)", NONE, n -> rows.route(0, 1, 1, n, 1), Numbers.beyond(0, 30));
        CHECK.due("the least", rows.route(0, 1, 127, 0, 1), 0);
        CHECK.due("the greatest", rows.route(0, 2, 127, 30, 1), 1);
        Worlds.addCopies(rows, 0, 2);
        CHECK.due("it comes on the day to go", rows.slip(rows.send(1, 1, 6), 5), 7);
        CHECK.due("it comes 30 days later", rows.slip(rows.send(2, 2, 6), 5), 37);
    }

    /** "ROOM for copies, 1 .. 99" */
    private static void room() {
        TransitRows rows = Worlds.withPlaces(2);
        CHECK.dueEach("route(0, 1, 1, 0, #)", NONE, n -> rows.route(0, 1, 1, 0, n), Numbers.beyond(1, 99));
        CHECK.due("route(0, 1, 1, 0, -1)", rows.route(0, 1, 1, 0, -1), NONE);
        CHECK.due("the least", rows.route(0, 1, 1, 0, 1), 0);
        CHECK.due("the greatest", rows.route(0, 1, 1, 0, 99), 1);
    }

    private static void closedPlacesHaveRoutes() {
        TransitRows rows = Worlds.withPlaces(2);
        rows.open(0, false);
        rows.open(1, false);
        CHECK.due("a route of closed places", rows.route(0, 1, 1, 0, 1), 0);
    }

    private static void severalRoutesOfOneWay() {
        TransitRows rows = Worlds.withPlaces(2);
        CHECK.due("the first", rows.route(0, 1, 1, 0, 1), 0);
        CHECK.due("the same once more", rows.route(0, 1, 1, 0, 1), 1);
        CHECK.due("the way back", rows.route(1, 0, 1, 0, 1), 2);
    }

    /** "ROUTES, 0 .. 39 as they come"; "NONE if .. there are 40" */
    private static void noneIfThereAreForty() {
        TransitRows rows = Worlds.withPlaces(2);
        for (int i = 0; i < 40; i++) {
            CHECK.due("load of one that is to come", rows.load(i, 0), 0);
            CHECK.due("route", rows.route(i % 2, 1 - i % 2, 127, 0, 1), i);
        }
        CHECK.due("the 41st", rows.route(0, 1, 127, 0, 1), NONE);
        CHECK.due("the 42nd", rows.route(1, 0, 127, 0, 1), NONE);
        CHECK.due("a load of the 40th", rows.load(39, 0), 1);
        CHECK.due("a load of the 41st", rows.load(40, 0), 0);
        CHECK.due("a load of the first", rows.load(0, 0), 2);
        CHECK.due("a day of the 40th", rows.skip(39, 1, true), true);
        CHECK.due("a day of the 41st", rows.skip(40, 1, true), false);
        rows.copy(1);
        CHECK.due("send", rows.send(1, 0, 0), 1);
        CHECK.due("by the least number of twenty", rows.slip(1, 1), 1);
    }

    private static void aRefusedOneTakesNoNumber() {
        TransitRows rows = Worlds.withPlaces(2);
        rows.route(0, 2, 1, 0, 1);
        rows.route(0, 0, 1, 0, 1);
        rows.route(0, 1, 0, 0, 1);
        rows.route(0, 1, 1, 31, 1);
        rows.route(0, 1, 1, 0, 100);
        CHECK.due("there is none", rows.load(0, 0), 0);
        CHECK.due("the first", rows.route(0, 1, 1, 0, 1), 0);
        rows.route(0, 1, 128, 0, 1);
        CHECK.due("the second", rows.route(0, 1, 1, 0, 1), 1);
    }
}
