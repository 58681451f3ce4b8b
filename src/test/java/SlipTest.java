/** Promise 17, and of the terms: SLIPS and their states. */
public final class SlipTest {
    private static final Check CHECK = new Check();
    private static final int NONE = TransitRows.NONE;

    public static void main(String[] args) {
        ofEveryState();
        whatChangesAsItGoes();
        noneSuch();
        theFirstAndTheLast();
        forAnotherWhat();
        onTheLastDay();
        CHECK.end();
    }

    /** "in a state: 0 WAITING .. 5 BACK"; "6: when it came, or NONE" */
    private static void ofEveryState() {
        TransitRows rows = Worlds.withEveryState();
        CHECK.dueSlip(rows, Worlds.WAITING, 1, 0, 0, 99, 100, 101, NONE);
        CHECK.dueSlip(rows, Worlds.LOADED, 2, 0, 1, 49, 50, 51, NONE);
        CHECK.dueSlip(rows, Worlds.ARRIVED, 3, 0, 2, 0, 1, 2, 2);
        CHECK.dueSlip(rows, Worlds.LOST, 4, 0, 3, 0, 1, 2, NONE);
        CHECK.dueSlip(rows, Worlds.WRONG, 5, 0, 4, 0, 1, 2, 2);
        CHECK.dueSlip(rows, Worlds.BACK, 6, 0, 5, 0, 1, 2, NONE);
    }

    /** "5: when it comes by that (the DAY TO GO and DURATION)" */
    private static void whatChangesAsItGoes() {
        TransitRows rows = Worlds.withPlaces(3);
        rows.route(1, 0, 127, 3, 9);
        rows.route(0, 1, 127, 4, 1);
        Worlds.addCopies(rows, 0, 2);
        rows.send(2, 1, 10);
        CHECK.dueSlip(rows, 1, 2, 1, 0, 10, 11, 15, NONE);
        rows.load(1, 20);
        CHECK.dueSlip(rows, 1, 2, 1, 1, 10, 20, 24, NONE);
        rows.lost(39);
        CHECK.dueSlip(rows, 1, 2, 1, 3, 10, 20, 24, NONE);
        rows.arrive(1, 1, 50);
        CHECK.dueSlip(rows, 1, 2, 1, 2, 10, 20, 24, 50);
        rows.send(2, 0, 60);
        CHECK.dueSlip(rows, 2, 2, 0, 0, 60, 61, 64, NONE);
        CHECK.dueSlip(rows, 1, 2, 1, 2, 10, 20, 24, 50);
    }

    /** "NONE if there is none such" */
    private static void noneSuch() {
        for (int many : new int[] {0, 1, 6}) {
            TransitRows rows = Worlds.withWaiting(9, many);
            for (int what = 0; what <= 6; what++) {
                int asked = what;
                CHECK.dueEach("slip(#, " + what + ")", NONE, n -> rows.slip(n, asked), Numbers.beyond(1, many));
            }
        }
    }

    /** "SLIPS are 1 .. 150" */
    private static void theFirstAndTheLast() {
        TransitRows rows = Worlds.withRoute(0, 9, 2);
        Worlds.addSlips(rows, 149);
        rows.send(2, 1, 7);
        CHECK.dueSlip(rows, 1, 1, 0, 5, 0, 1, 1, NONE);
        CHECK.dueSlip(rows, 150, 2, 0, 0, 7, 8, 8, NONE);
        CHECK.dueEach("slip(#, 0)", NONE, n -> rows.slip(n, 0), Numbers.beyond(1, 150));
    }

    /** "or for another what" */
    private static void forAnotherWhat() {
        TransitRows rows = Worlds.withEveryState();
        for (int slip = 1; slip <= 6; slip++) {
            int asked = slip;
            CHECK.dueEach("slip(" + slip + ", #)", NONE, n -> rows.slip(asked, n), Numbers.beyond(0, 6));
        }
        CHECK.due("another what of none such", rows.slip(7, 7), NONE);
    }

    private static void onTheLastDay() {
        TransitRows rows = Worlds.withRoute(30, 9, 1);
        rows.priority(1, true);
        rows.send(1, 1, 99999);
        rows.load(0, 99999);
        rows.arrive(1, 1, 99999);
        CHECK.dueSlip(rows, 1, 1, 0, 2, 99999, 99999, 100029, 99999);
    }
}
