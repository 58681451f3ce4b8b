/** Promise 1. */
public final class NewObjectTest {
    private static final Check CHECK = new Check();
    private static final int NONE = TransitRows.NONE;

    public static void main(String[] args) {
        noPlaces();
        noRoutes();
        noCopies();
        nothingElse();
        placesWithoutRoutes();
        objectsShareNothing();
        CHECK.end();
    }

    /** "No places" */
    private static void noPlaces() {
        int[] places = Numbers.fromTo(-1, 12);
        TransitRows rows = new TransitRows();
        CHECK.dueEach("open(#, false)", false, n -> rows.open(n, false), places);
        CHECK.dueEach("route(#, 1, 1, 1, 1)", NONE, n -> rows.route(n, 1, 1, 1, 1), places);
        CHECK.dueEach("route(0, #, 1, 1, 1)", NONE, n -> rows.route(0, n, 1, 1, 1), places);
        CHECK.dueEach("copy(#)", 0, rows::copy, places);
        CHECK.dueEach("bin(0, #, 0)", 0, n -> rows.bin(0, n, 0), places);
        CHECK.dueEach("statistics(#, 1, 0)", NONE, n -> rows.statistics(n, 1, 0), places);
        CHECK.dueEach("statistics(0, 1, #)", NONE, n -> rows.statistics(0, 1, n), -1, 0, 1, 2, 3, 4);
        CHECK.due("place()", rows.place(), 0);
        CHECK.due("open(0, true)", rows.open(0, true), true);
        CHECK.due("copy(0)", rows.copy(0), 1);
    }

    /** "no routes" */
    private static void noRoutes() {
        int[] routes = Numbers.fromTo(-1, 40);
        TransitRows rows = new TransitRows();
        CHECK.dueEach("skip(#, 0, true)", false, n -> rows.skip(n, 0, true), routes);
        CHECK.dueEach("skip(#, 0, false)", false, n -> rows.skip(n, 0, false), routes);
        CHECK.dueEach("load(#, 0)", 0, n -> rows.load(n, 0), routes);
    }

    /** "no copies" */
    private static void noCopies() {
        int[] copies = Numbers.fromTo(-1, 61);
        TransitRows rows = new TransitRows();
        CHECK.dueEach("priority(#, true)", false, n -> rows.priority(n, true), copies);
        CHECK.dueEach("priority(#, true) again", false, n -> rows.priority(n, true), copies);
        CHECK.dueEach("floats(#, true)", false, n -> rows.floats(n, true), copies);
        CHECK.dueEach("floats(#, true) again", false, n -> rows.floats(n, true), copies);
        CHECK.dueEach("send(#, 0, 0)", 0, n -> rows.send(n, 0, 0), copies);
        CHECK.dueEach("where(#, 1)", NONE, n -> rows.where(n, 1), copies);
    }

    private static void nothingElse() {
        int[] some = {-1, 0, 1, 2};
        TransitRows rows = new TransitRows();
        CHECK.dueEach("back(#)", 0, rows::back, some);
        CHECK.dueEach("slip(#, 0)", NONE, n -> rows.slip(n, 0), some);
        CHECK.dueEach("arrive(#, 0, 0)", 0, n -> rows.arrive(n, 0, 0), some);
        CHECK.dueEach("loaded(#, 0)", 0, n -> rows.loaded(n, 0), some);
        CHECK.dueEach("missing(#, 0)", 0, n -> rows.missing(n, 0), some);
        CHECK.dueEach("told(#, 0)", NONE, n -> rows.told(n, 0), some);
        CHECK.dueEach("told(#, 1)", NONE, n -> rows.told(n, 1), some);
        CHECK.dueEach("lost(#)", 0, rows::lost, 0, 15, 99999);
    }

    private static void placesWithoutRoutes() {
        TransitRows rows = Worlds.withPlaces(2);
        rows.copy(0);
        CHECK.due("send(1, 1, 0)", rows.send(1, 1, 0), TransitRows.NO_ROUTE);
        CHECK.due("load(0, 0)", rows.load(0, 0), 0);
        CHECK.due("skip(0, 0, true)", rows.skip(0, 0, true), false);
        CHECK.due("bin(0, 1, 0)", rows.bin(0, 1, 0), 0);
        CHECK.due("statistics(0, 1, 0)", rows.statistics(0, 1, 0), 0);
    }

    private static void objectsShareNothing() {
        TransitRows other = Worlds.withEveryState();
        TransitRows rows = new TransitRows();
        CHECK.due("place() of another object", rows.place(), 0);
        CHECK.due("copy(0) of another object", rows.copy(0), 1);
        CHECK.due("slip(1, 0) of another object", rows.slip(1, 0), NONE);
        CHECK.due("slip(1, 0)", other.slip(1, 0), 1);
    }
}
