/** Promises 15 and 16. */
public final class ArriveTest {
    private static final Check CHECK = new Check();
    private static final int NONE = TransitRows.NONE;

    public static void main(String[] args) {
        theRightPlace();
        aWrongPlace();
        arriveRefuses();
        lostAndFound();
        fourteenDays();
        lostLeavesOthers();
        CHECK.end();
    }

    private static TransitRows withLoad(int duration) {
        TransitRows rows = Worlds.withPlaces(3);
        rows.route(0, 1, 127, duration, 9);
        Worlds.addCopies(rows, 0, 2);
        rows.send(1, 1, 0);
        rows.send(2, 1, 0);
        rows.load(0, 5);
        return rows;
    }

    private static void theRightPlace() {
        TransitRows rows = withLoad(3);
        rows.floats(2, true);
        rows.open(1, false);
        CHECK.due("on the day of its load, at a closed place", rows.arrive(1, 1, 5), 1);
        CHECK.due("ARRIVED", rows.slip(1, 2), 2);
        CHECK.due("when it came", rows.slip(1, 6), 5);
        CHECK.due("it stands there", rows.where(1, 0), 1);
        CHECK.due("its home is as before", rows.where(1, 1), 0);
        CHECK.due("it has no slip", rows.where(1, 2), 0);
        CHECK.due("the last day", rows.arrive(2, 1, 99999), 1);
        CHECK.due("one that FLOATS has its home there", rows.where(2, 1), 1);
        CHECK.due("one that FLOATS stands there", rows.where(2, 0), 1);
    }

    private static void aWrongPlace() {
        TransitRows rows = withLoad(3);
        rows.floats(1, true);
        CHECK.due("elsewhere", rows.arrive(1, 2, 6), -1);
        CHECK.due("WRONG", rows.slip(1, 2), 4);
        CHECK.due("when it came", rows.slip(1, 6), 6);
        CHECK.due("it stands there", rows.where(1, 0), 2);
        CHECK.due("it FLOATS, its home is as before", rows.where(1, 1), 0);
        CHECK.due("it has no slip", rows.where(1, 2), 0);
        CHECK.due("at the route's beginning", rows.arrive(2, 0, 6), -1);
        CHECK.due("it stands there", rows.where(2, 0), 0);
        rows.route(2, 0, 127, 0, 1);
        CHECK.due("it is sent from there", rows.send(1, 0, 9), 3);
        CHECK.due("by that route", rows.slip(3, 1), 1);
    }

    private static void arriveRefuses() {
        TransitRows rows = withLoad(3);
        rows.copy(0);
        CHECK.due("slip 0", rows.arrive(0, 1, 9), 0);
        CHECK.due("slip 3", rows.arrive(3, 1, 9), 0);
        CHECK.due("slip -1", rows.arrive(-1, 1, 9), 0);
        CHECK.due("slip max", rows.arrive(Integer.MAX_VALUE, 1, 9), 0);
        CHECK.due("place 3", rows.arrive(1, 3, 9), 0);
        CHECK.due("place -1", rows.arrive(1, -1, 9), 0);
        CHECK.due("day -1", rows.arrive(1, 1, -1), 0);
        CHECK.due("day 100000", rows.arrive(1, 1, 100000), 0);
        CHECK.due("before its load", rows.arrive(1, 1, 4), 0);
        CHECK.due("LOADED still", rows.slip(1, 2), 1);
        CHECK.due("it did not come", rows.slip(1, 6), NONE);
        rows.send(3, 1, 6);
        CHECK.due("a WAITING one", rows.arrive(3, 1, 9), 0);
        rows.back(3);
        CHECK.due("a BACK one", rows.arrive(3, 1, 9), 0);
        rows.arrive(1, 1, 9);
        CHECK.due("an ARRIVED one", rows.arrive(1, 2, 10), 0);
        CHECK.due("the copy stays", rows.where(1, 0), 1);
        rows.arrive(2, 2, 9);
        CHECK.due("a WRONG one", rows.arrive(2, 1, 10), 0);
        CHECK.due("the copy stays", rows.where(2, 0), 2);
    }

    private static void lostAndFound() {
        TransitRows rows = withLoad(3);
        CHECK.due("lost(60)", rows.lost(60), 2);
        CHECK.due("a LOST one comes before its load", rows.arrive(1, 1, 4), 0);
        CHECK.due("a LOST one comes", rows.arrive(1, 1, 7), 1);
        CHECK.due("ARRIVED", rows.slip(1, 2), 2);
        CHECK.due("a LOST one comes elsewhere", rows.arrive(2, 2, 61), -1);
        CHECK.due("WRONG", rows.slip(2, 2), 4);
        CHECK.due("none is lost now", rows.lost(99999), 0);
    }

    private static void fourteenDays() {
        TransitRows rows = withLoad(3);
        CHECK.due("lost(-1)", rows.lost(-1), NONE);
        CHECK.due("lost(100000)", rows.lost(100000), NONE);
        CHECK.due("lost(min)", rows.lost(Integer.MIN_VALUE), NONE);
        CHECK.due("lost(max)", rows.lost(Integer.MAX_VALUE), NONE);
        CHECK.due("lost(0)", rows.lost(0), 0);
        CHECK.due("14 days", rows.lost(22), 0);
        CHECK.due("LOADED still", rows.slip(1, 2), 1);
        CHECK.due("15 days", rows.lost(23), 2);
        CHECK.due("LOST", rows.slip(1, 2), 3);
        CHECK.due("LOST", rows.slip(2, 2), 3);
        CHECK.due("they are LOST already", rows.lost(23), 0);
    }

    private static void lostLeavesOthers() {
        TransitRows rows = Worlds.withRoute(0, 2, 5);
        for (int copy = 1; copy <= 5; copy++) {
            rows.send(copy, 1, copy);
        }
        rows.load(0, 3);
        rows.load(0, 4);
        rows.arrive(1, 1, 4);
        rows.back(5);
        CHECK.due("slip 2 of day 3", rows.lost(18), 1);
        CHECK.due("ARRIVED", rows.slip(1, 2), 2);
        CHECK.due("LOST", rows.slip(2, 2), 3);
        CHECK.due("LOADED on day 4", rows.slip(3, 2), 1);
        CHECK.due("WAITING", rows.slip(4, 2), 0);
        CHECK.due("slip 3 of day 4", rows.lost(99999), 1);
        CHECK.due("WAITING still", rows.slip(4, 2), 0);
        CHECK.due("BACK still", rows.slip(5, 2), 5);
    }
}
