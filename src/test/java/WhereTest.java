/** Promise 18, and of the terms: when a copy has a SLIP. */
public final class WhereTest {
    private static final Check CHECK = new Check();
    private static final int NONE = TransitRows.NONE;

    public static void main(String[] args) {
        ofEveryState();
        asItGoes();
        noneSuch();
        theFirstAndTheLast();
        forAnotherWhat();
        CHECK.end();
    }

    /** "0: where it STANDS, or NONE, 1: its HOME, 2: its slip, or 0" */
    private static void ofEveryState() {
        TransitRows rows = Worlds.withEveryState();
        CHECK.dueWhere(rows, Worlds.WAITING, NONE, 0, 1);
        CHECK.dueWhere(rows, Worlds.LOADED, NONE, 0, 2);
        CHECK.dueWhere(rows, Worlds.ARRIVED, 1, 0, 0);
        CHECK.dueWhere(rows, Worlds.LOST, NONE, 0, 4);
        CHECK.dueWhere(rows, Worlds.WRONG, 2, 0, 0);
        CHECK.dueWhere(rows, Worlds.BACK, 0, 0, 0);
        CHECK.dueWhere(rows, 7, 0, 0, 0);
    }

    private static void asItGoes() {
        TransitRows rows = Worlds.withRoute(1, 9, 1);
        rows.send(1, 1, 0);
        CHECK.dueWhere(rows, 1, NONE, 0, 1);
        rows.back(1);
        CHECK.dueWhere(rows, 1, 0, 0, 0);
        rows.send(1, 1, 0);
        rows.load(0, 1);
        CHECK.dueWhere(rows, 1, NONE, 0, 2);
        rows.lost(17);
        CHECK.dueWhere(rows, 1, NONE, 0, 2);
        rows.floats(1, true);
        rows.arrive(2, 1, 20);
        CHECK.dueWhere(rows, 1, 1, 1, 0);
    }

    /** "NONE if there is none such" */
    private static void noneSuch() {
        for (int many : new int[] {0, 1, 6}) {
            TransitRows rows = Worlds.withWaiting(9, many);
            for (int what = 0; what <= 2; what++) {
                int asked = what;
                CHECK.dueEach("where(#, " + what + ")", NONE, n -> rows.where(n, asked), Numbers.beyond(1, many));
            }
        }
    }

    /** "COPIES are 1 .. 60" */
    private static void theFirstAndTheLast() {
        TransitRows rows = Worlds.withWaiting(9, 60);
        CHECK.dueWhere(rows, 1, NONE, 0, 1);
        CHECK.dueWhere(rows, 60, NONE, 0, 60);
        CHECK.dueEach("where(#, 2)", NONE, n -> rows.where(n, 2), Numbers.beyond(1, 60));
    }

    /** "or for another what" */
    private static void forAnotherWhat() {
        TransitRows rows = Worlds.withEveryState();
        for (int copy = 1; copy <= 7; copy++) {
            int asked = copy;
            CHECK.dueEach("where(" + copy + ", #)", NONE, n -> rows.where(asked, n), Numbers.beyond(0, 2));
        }
        CHECK.due("another what of none such", rows.where(8, 3), NONE);
    }
}
