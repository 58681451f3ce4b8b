/** Promise 1. */
public final class NewObjectTest {
    private static final Check CHECK = new Check();

    public static void main(String[] args) {
        nothingIsThere();
        objectsShareNothing();
        CHECK.end();
    }

    private static void nothingIsThere() {
        TransitRows rows = new TransitRows();
        CHECK.due("open(0, false)", rows.open(0, false), false);
        CHECK.due("route(0, 1, 1, 1, 1)", rows.route(0, 1, 1, 1, 1), TransitRows.NONE);
        CHECK.due("skip(0, 0, true)", rows.skip(0, 0, true), false);
        CHECK.due("copy(0)", rows.copy(0), 0);
        CHECK.due("priority(1, true)", rows.priority(1, true), false);
        CHECK.due("priority(1, true) again", rows.priority(1, true), false);
        CHECK.due("floats(1, true)", rows.floats(1, true), false);
        CHECK.due("floats(1, true) again", rows.floats(1, true), false);
        CHECK.due("send(1, 0, 0)", rows.send(1, 0, 0), 0);
        CHECK.due("back(1)", rows.back(1), 0);
        CHECK.due("bin(0, 1, 0)", rows.bin(0, 1, 0), 0);
        CHECK.due("load(0, 0)", rows.load(0, 0), 0);
        CHECK.due("loaded(1, 0)", rows.loaded(1, 0), 0);
        CHECK.due("missing(1, 0)", rows.missing(1, 0), 0);
        CHECK.due("arrive(1, 0, 0)", rows.arrive(1, 0, 0), 0);
        CHECK.due("lost(99999)", rows.lost(99999), 0);
        CHECK.due("slip(1, 0)", rows.slip(1, 0), TransitRows.NONE);
        CHECK.due("where(1, 0)", rows.where(1, 0), TransitRows.NONE);
        CHECK.due("statistics(0, 1, 0)", rows.statistics(0, 1, 0), TransitRows.NONE);
        CHECK.due("told(0, 0)", rows.told(0, 0), TransitRows.NONE);
    }

    private static void objectsShareNothing() {
        Worlds.withRoute(0, 1, 3);
        TransitRows rows = new TransitRows();
        CHECK.due("place() of another object", rows.place(), 0);
        CHECK.due("copy(0) of another object", rows.copy(0), 1);
    }
}
