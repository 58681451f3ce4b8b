/** Promise 14. */
public final class MissingTest {
    private static final Check CHECK = new Check();

    public static void main(String[] args) {
        neitherArrivedNorWrong();
        fromZeroOn();
        noSuchLoad();
        theFirstAndTheLastLoad();
        nothingIsMissing();
        ofItsOwnLoad();
        CHECK.end();
    }

    /** "that is neither ARRIVED nor WRONG": LOADED and LOST are missing */
    private static void neitherArrivedNorWrong() {
        TransitRows rows = Worlds.withEveryState();
        CHECK.dueMissing(rows, 1, Worlds.LOST);
        CHECK.dueMissing(rows, 2, Worlds.LOADED);
        CHECK.dueLoaded(rows, 1, Worlds.ARRIVED, Worlds.LOST, Worlds.WRONG);
    }

    /** "The i-th slip of a load, from 0 on"; "0 if there is none such" */
    private static void fromZeroOn() {
        TransitRows rows = Worlds.withWaiting(9, 4);
        rows.priority(4, true);
        rows.load(0, 1);
        CHECK.dueMissing(rows, 1, 4, 1, 2, 3);
        CHECK.dueEach("missing(1, #)", 0, n -> rows.missing(1, n), Numbers.beyond(0, 3));
        rows.arrive(1, 1, 2);
        CHECK.dueMissing(rows, 1, 4, 2, 3);
        CHECK.dueEach("missing(1, #)", 0, n -> rows.missing(1, n), Numbers.beyond(0, 2));
        rows.arrive(4, 0, 2);
        CHECK.dueMissing(rows, 1, 2, 3);
        rows.lost(50);
        CHECK.dueMissing(rows, 1, 2, 3);
        rows.arrive(3, 1, 51);
        CHECK.dueMissing(rows, 1, 2);
        CHECK.dueEach("missing(1, #)", 0, n -> rows.missing(1, n), Numbers.beyond(0, 0));
    }

    private static void noSuchLoad() {
        TransitRows none = Worlds.withWaiting(9, 2);
        CHECK.dueEach("missing(#, 0)", 0, n -> none.missing(n, 0), Numbers.beyond(1, 0));
        TransitRows one = Worlds.withWaiting(9, 2);
        one.load(0, 1);
        CHECK.dueEach("missing(#, 0)", 0, n -> one.missing(n, 0), Numbers.beyond(1, 1));
        CHECK.dueEach("missing(#, -1)", 0, n -> one.missing(n, -1), Numbers.beyond(1, 1));
    }

    /** "LOADS are 1 .. 60" */
    private static void theFirstAndTheLastLoad() {
        TransitRows rows = Worlds.withWaiting(1, 60);
        for (int day = 1; day <= 60; day++) {
            rows.load(0, day);
        }
        for (int load = 1; load <= 60; load++) {
            CHECK.dueMissing(rows, load, load);
        }
        CHECK.dueEach("missing(#, 0)", 0, n -> rows.missing(n, 0), Numbers.beyond(1, 60));
    }

    private static void nothingIsMissing() {
        TransitRows rows = Worlds.withWaiting(9, 2);
        rows.load(0, 0);
        rows.load(0, 1);
        rows.arrive(1, 1, 1);
        rows.arrive(2, 0, 1);
        CHECK.dueMissing(rows, 1);
        CHECK.dueMissing(rows, 2);
        CHECK.dueEach("missing(2, #)", 0, n -> rows.missing(2, n), Numbers.beyond(0, 0));
    }

    /** A copy that came and was loaded once more is not missing in its first load. */
    private static void ofItsOwnLoad() {
        TransitRows rows = Worlds.withWaiting(1, 2);
        rows.load(0, 1);
        rows.load(0, 2);
        rows.arrive(1, 0, 3);
        rows.send(1, 1, 3);
        rows.load(0, 4);
        CHECK.dueMissing(rows, 1);
        CHECK.dueMissing(rows, 2, 2);
        CHECK.dueMissing(rows, 3, 3);
    }
}
