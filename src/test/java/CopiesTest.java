/** Promises 6, 7, 8 and 18. */
public final class CopiesTest {
    private static final Check CHECK = new Check();
    private static final int NONE = TransitRows.NONE;

    public static void main(String[] args) {
        aCopyStandsAtItsHome();
        sixtyCopies();
        priorityTellsWhatItWas();
        floatsTellsWhatItWas();
        whereFollowsTheSlip();
        whereRefuses();
        CHECK.end();
    }

    private static void aCopyStandsAtItsHome() {
        TransitRows rows = Worlds.withPlaces(3);
        rows.open(2, false);
        CHECK.due("copy(1)", rows.copy(1), 1);
        CHECK.due("copy(2), a closed place", rows.copy(2), 2);
        CHECK.due("copy(3)", rows.copy(3), 0);
        CHECK.due("copy(-1)", rows.copy(-1), 0);
        CHECK.due("copy(0)", rows.copy(0), 3);
        CHECK.due("where(1, 0)", rows.where(1, 0), 1);
        CHECK.due("where(1, 1)", rows.where(1, 1), 1);
        CHECK.due("where(1, 2)", rows.where(1, 2), 0);
        CHECK.due("where(2, 0)", rows.where(2, 0), 2);
        CHECK.due("where(3, 1)", rows.where(3, 1), 0);
    }

    private static void sixtyCopies() {
        TransitRows rows = Worlds.withPlaces(1);
        for (int i = 1; i <= 60; i++) {
            CHECK.due("copy(0)", rows.copy(0), i);
        }
        CHECK.due("the 61st", rows.copy(0), 0);
        CHECK.due("priority(60, true)", rows.priority(60, true), false);
        CHECK.due("priority(60, true) again", rows.priority(60, true), true);
        CHECK.due("floats(60, true)", rows.floats(60, true), false);
        CHECK.due("floats(60, true) again", rows.floats(60, true), true);
        CHECK.due("where(60, 0)", rows.where(60, 0), 0);
        CHECK.due("where(61, 0)", rows.where(61, 0), NONE);
    }

    private static void priorityTellsWhatItWas() {
        TransitRows rows = Worlds.withRoute(0, 1, 2);
        CHECK.due("not at first", rows.priority(1, false), false);
        CHECK.due("on", rows.priority(1, true), false);
        CHECK.due("still on", rows.priority(1, true), true);
        CHECK.due("of another copy", rows.priority(2, true), false);
        CHECK.due("off", rows.priority(1, false), true);
        CHECK.due("still off", rows.priority(1, false), false);
        CHECK.due("it is not FLOATS", rows.floats(2, false), false);
        for (int none : new int[] {0, 3, -1, Integer.MAX_VALUE, Integer.MIN_VALUE}) {
            rows.priority(none, true);
            CHECK.due("priority(" + none + ", true)", rows.priority(none, true), false);
        }
    }

    private static void floatsTellsWhatItWas() {
        TransitRows rows = Worlds.withRoute(0, 1, 2);
        CHECK.due("not at first", rows.floats(1, false), false);
        CHECK.due("on", rows.floats(1, true), false);
        CHECK.due("still on", rows.floats(1, true), true);
        CHECK.due("of another copy", rows.floats(2, true), false);
        CHECK.due("off", rows.floats(1, false), true);
        CHECK.due("still off", rows.floats(1, false), false);
        CHECK.due("it is not PRIORITY", rows.priority(2, false), false);
        for (int none : new int[] {0, 3, -1, Integer.MAX_VALUE, Integer.MIN_VALUE}) {
            rows.floats(none, true);
            CHECK.due("floats(" + none + ", true)", rows.floats(none, true), false);
        }
    }

    private static void whereFollowsTheSlip() {
        TransitRows rows = Worlds.withRoute(1, 9, 1);
        rows.send(1, 1, 0);
        dueWhere(rows, "WAITING", NONE, 0, 1);
        rows.back(1);
        dueWhere(rows, "BACK", 0, 0, 0);
        rows.send(1, 1, 0);
        rows.load(0, 1);
        dueWhere(rows, "LOADED", NONE, 0, 2);
        rows.lost(17);
        dueWhere(rows, "LOST", NONE, 0, 2);
        rows.arrive(2, 1, 20);
        dueWhere(rows, "ARRIVED", 1, 0, 0);
    }

    private static void dueWhere(TransitRows rows, String state, int stands, int home, int slip) {
        CHECK.due(state + ": where(1, 0)", rows.where(1, 0), stands);
        CHECK.due(state + ": where(1, 1)", rows.where(1, 1), home);
        CHECK.due(state + ": where(1, 2)", rows.where(1, 2), slip);
    }

    private static void whereRefuses() {
        TransitRows rows = Worlds.withRoute(1, 9, 1);
        CHECK.due("where(1, 3)", rows.where(1, 3), NONE);
        CHECK.due("where(1, -1)", rows.where(1, -1), NONE);
        for (int what = 0; what < 3; what++) {
            CHECK.due("where(0, ..)", rows.where(0, what), NONE);
            CHECK.due("where(2, ..)", rows.where(2, what), NONE);
            CHECK.due("where(-1, ..)", rows.where(-1, what), NONE);
            CHECK.due("where(max, ..)", rows.where(Integer.MAX_VALUE, what), NONE);
        }
    }
}
