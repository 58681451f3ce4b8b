/** Promises 12, 13, 14 and 20. */
public final class LoadTest {
    private static final Check CHECK = new Check();
    private static final int NONE = TransitRows.NONE;

    public static void main(String[] args) {
        daysOfALoad();
        loadRefuses();
        sixtyLoads();
        whoIsDue();
        littleRoom();
        aClosedEnd();
        onlyItsOwnRoute();
        missingFollowsTheStates();
        loadedAndMissingRefuse();
        aHundredAndFiftyLoaded();
        aHundredTold();
        CHECK.end();
    }

    private static void daysOfALoad() {
        TransitRows rows = Worlds.withPlaces(2);
        rows.route(0, 1, 1 << 2, 0, 1);
        rows.route(0, 1, 127, 0, 1);
        CHECK.due("the mask has it not", rows.load(0, 1), 0);
        CHECK.due("the mask has it, nothing is LOADED", rows.load(0, 9), 1);
        CHECK.due("on that day", rows.load(0, 9), 0);
        CHECK.due("before that day", rows.load(0, 2), 0);
        CHECK.due("another route before that day", rows.load(1, 0), 2);
        CHECK.due("on a later day", rows.load(0, 16), 3);
        CHECK.due("the last day", rows.load(1, 99999), 4);
    }

    private static void loadRefuses() {
        TransitRows rows = Worlds.withRoute(0, 1, 1);
        rows.send(1, 1, 0);
        CHECK.due("route -1", rows.load(-1, 5), 0);
        CHECK.due("route 1", rows.load(1, 5), 0);
        CHECK.due("route max", rows.load(Integer.MAX_VALUE, 5), 0);
        CHECK.due("day -1", rows.load(0, -1), 0);
        CHECK.due("day -7", rows.load(0, -7), 0);
        CHECK.due("day 100000", rows.load(0, 100000), 0);
        CHECK.due("day min", rows.load(0, Integer.MIN_VALUE), 0);
        rows.skip(0, 5, true);
        CHECK.due("a day left out", rows.load(0, 5), 0);
        CHECK.due("WAITING still", rows.slip(1, 2), 0);
        CHECK.due("a refused one counts not as a load", rows.load(0, 1), 1);
    }

    private static void sixtyLoads() {
        TransitRows rows = Worlds.withRoute(0, 1, 1);
        for (int i = 1; i <= 60; i++) {
            CHECK.due("load", rows.load(0, i), i);
        }
        rows.send(1, 1, 60);
        CHECK.due("the 61st", rows.load(0, 61), 0);
        CHECK.due("nothing is LOADED", rows.slip(1, 2), 0);
    }

    private static void whoIsDue() {
        TransitRows rows = Worlds.withRoute(3, 9, 3);
        rows.send(1, 1, 9);
        rows.send(2, 1, 5);
        rows.send(3, 1, 10);
        CHECK.due("load", rows.load(0, 10), 1);
        CHECK.dueLoaded(rows, 1, 2, 1);
        CHECK.due("LOADED", rows.slip(2, 2), 1);
        CHECK.due("its day to go is the load's", rows.slip(2, 4), 10);
        CHECK.due("it comes by that", rows.slip(2, 5), 13);
        CHECK.due("not due: WAITING", rows.slip(3, 2), 0);
        CHECK.due("not due: its day to go", rows.slip(3, 4), 11);
        CHECK.dueTold(rows);
    }

    private static void littleRoom() {
        TransitRows rows = Worlds.withRoute(0, 2, 5);
        for (int copy = 1; copy <= 5; copy++) {
            rows.send(copy, 1, 6 - copy);
        }
        rows.priority(1, true);
        CHECK.due("load", rows.load(0, 8), 1);
        CHECK.dueLoaded(rows, 1, 1, 5);
        CHECK.dueTold(rows, 2, 4, 2, 3, 2, 2);
        CHECK.due("WAITING still", rows.slip(4, 2), 0);
        CHECK.due("its day to go as before", rows.slip(4, 4), 3);
        CHECK.due("load", rows.load(0, 9), 2);
        CHECK.dueLoaded(rows, 2, 4, 3);
        CHECK.dueLoaded(rows, 1, 1, 5);
        CHECK.dueTold(rows, 2, 4, 2, 3, 2, 2, 2, 2);
        CHECK.due("load", rows.load(0, 10), 3);
        CHECK.dueLoaded(rows, 3, 2);
        CHECK.dueTold(rows, 2, 4, 2, 3, 2, 2, 2, 2);
    }

    private static void aClosedEnd() {
        TransitRows rows = Worlds.withRoute(0, 1, 3);
        rows.send(1, 1, 3);
        rows.send(2, 1, 2);
        rows.send(3, 1, 8);
        rows.open(1, false);
        CHECK.due("load", rows.load(0, 5), 1);
        CHECK.dueLoaded(rows, 1);
        CHECK.dueTold(rows, 1, 2, 1, 1);
        CHECK.due("WAITING still", rows.slip(2, 2), 0);
        CHECK.due("its day to go as before", rows.slip(2, 4), 3);
        CHECK.due("the day has had its load", rows.load(0, 5), 0);
        rows.open(1, true);
        rows.open(0, false);
        CHECK.due("a closed beginning", rows.load(0, 6), 2);
        CHECK.dueLoaded(rows, 2, 2);
        CHECK.dueTold(rows, 1, 2, 1, 1, 2, 1);
    }

    private static void onlyItsOwnRoute() {
        TransitRows rows = Worlds.withPlaces(2);
        rows.route(0, 1, 1, 0, 9);
        rows.route(0, 1, 127, 9, 9);
        Worlds.addCopies(rows, 0, 2);
        rows.send(1, 1, 6);
        rows.skip(0, 7, true);
        rows.skip(0, 14, true);
        rows.send(2, 1, 6);
        CHECK.due("by route 0", rows.slip(1, 1), 0);
        CHECK.due("by route 1", rows.slip(2, 1), 1);
        CHECK.due("load", rows.load(1, 20), 1);
        CHECK.dueLoaded(rows, 1, 2);
        CHECK.dueBin(rows, 0, 1, 1);
    }

    private static void missingFollowsTheStates() {
        TransitRows rows = Worlds.withRoute(0, 9, 5);
        rows.priority(4, true);
        for (int copy = 1; copy <= 4; copy++) {
            rows.send(copy, 1, 0);
        }
        rows.load(0, 1);
        rows.send(5, 1, 1);
        rows.load(0, 2);
        CHECK.dueMissing(rows, 1, 4, 1, 2, 3);
        rows.arrive(1, 1, 2);
        CHECK.dueMissing(rows, 1, 4, 2, 3);
        rows.arrive(4, 0, 2);
        CHECK.dueMissing(rows, 1, 2, 3);
        rows.lost(50);
        CHECK.dueMissing(rows, 1, 2, 3);
        CHECK.dueMissing(rows, 2, 5);
        rows.arrive(2, 1, 51);
        rows.arrive(3, 0, 51);
        CHECK.dueMissing(rows, 1);
        rows.send(1, 0, 51);
        rows.send(3, 1, 51);
        rows.load(0, 52);
        CHECK.dueLoaded(rows, 1, 4, 1, 2, 3);
        CHECK.dueLoaded(rows, 2, 5);
        CHECK.dueLoaded(rows, 3, 6);
        CHECK.dueMissing(rows, 2, 5);
        CHECK.dueMissing(rows, 3, 6);
    }

    private static void loadedAndMissingRefuse() {
        TransitRows rows = Worlds.withRoute(0, 9, 1);
        rows.send(1, 1, 0);
        rows.load(0, 1);
        for (int load : new int[] {0, 2, -1, 61, Integer.MAX_VALUE, Integer.MIN_VALUE}) {
            CHECK.due("loaded(" + load + ", 0)", rows.loaded(load, 0), 0);
            CHECK.due("missing(" + load + ", 0)", rows.missing(load, 0), 0);
        }
        for (int i : new int[] {-1, 1, Integer.MAX_VALUE, Integer.MIN_VALUE}) {
            CHECK.due("loaded(1, " + i + ")", rows.loaded(1, i), 0);
            CHECK.due("missing(1, " + i + ")", rows.missing(1, i), 0);
        }
        CHECK.due("loaded(1, 0)", rows.loaded(1, 0), 1);
        CHECK.due("missing(1, 0)", rows.missing(1, 0), 1);
    }

    private static void aHundredAndFiftyLoaded() {
        TransitRows rows = Worlds.withRoute(0, 99, 60);
        for (int slip = 1; slip <= 150; slip++) {
            int day = (slip - 1) / 60;
            CHECK.due("send", rows.send((slip - 1) % 60 + 1, 1, day), slip);
            if (slip % 60 == 0) {
                rows.load(0, day + 1);
                comeBack(rows, slip - 59, slip, day + 1);
            }
        }
        CHECK.due("the third load", rows.load(0, 3), 3);
        CHECK.due("loaded(2, 59)", rows.loaded(2, 59), 120);
        CHECK.due("loaded(2, 60)", rows.loaded(2, 60), 0);
        CHECK.due("loaded(3, 29)", rows.loaded(3, 29), 150);
        CHECK.due("loaded(3, 30)", rows.loaded(3, 30), 0);
        CHECK.due("missing(3, 29)", rows.missing(3, 29), 150);
        CHECK.due("missing(3, 30)", rows.missing(3, 30), 0);
        CHECK.due("lost(99999)", rows.lost(99999), 30);
    }

    /** They come to the wrong place, where they were sent from, so that they can be sent again. */
    private static void comeBack(TransitRows rows, int first, int last, int day) {
        for (int slip = first; slip <= last; slip++) {
            CHECK.due("arrive", rows.arrive(slip, 0, day), -1);
        }
    }

    private static void aHundredTold() {
        TransitRows rows = Worlds.withRoute(0, 10, 60);
        for (int copy = 1; copy <= 60; copy++) {
            rows.send(copy, 1, 0);
        }
        rows.load(0, 1);
        rows.open(1, false);
        rows.load(0, 2);
        CHECK.due("told(49, 0)", rows.told(49, 0), 2);
        CHECK.due("told(49, 1)", rows.told(49, 1), 60);
        CHECK.due("told(50, 0)", rows.told(50, 0), 1);
        CHECK.due("told(50, 1)", rows.told(50, 1), 11);
        CHECK.due("told(99, 0)", rows.told(99, 0), 1);
        CHECK.due("told(99, 1)", rows.told(99, 1), 60);
        CHECK.due("told(100, 0)", rows.told(100, 0), NONE);
        rows.load(0, 3);
        CHECK.due("told(0, 0), still", rows.told(0, 0), 2);
        CHECK.due("told(0, 1), still", rows.told(0, 1), 11);
        CHECK.due("told(99, 1), still", rows.told(99, 1), 60);
        CHECK.due("told(100, 0)", rows.told(100, 0), NONE);
        CHECK.due("told(100, 1)", rows.told(100, 1), NONE);
        CHECK.due("told(-1, 0)", rows.told(-1, 0), NONE);
        CHECK.due("told(0, 2)", rows.told(0, 2), NONE);
        CHECK.due("told(0, -1)", rows.told(0, -1), NONE);
        CHECK.due("told(max, 0)", rows.told(Integer.MAX_VALUE, 0), NONE);
        CHECK.due("told(min, 0)", rows.told(Integer.MIN_VALUE, 0), NONE);
    }
}
