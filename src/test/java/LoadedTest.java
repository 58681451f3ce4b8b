/** Promise 13. */
public final class LoadedTest {
    private static final Check CHECK = new Check();

    public static void main(String[] args) {
        fromZeroOn();
        noSuchLoad();
        theFirstAndTheLastLoad();
        anEmptyLoad();
        asLoaded();
        aHundredAndFiftyLoaded();
        CHECK.end();
    }

    /** "The i-th slip of a load, from 0 on"; "0 if there is none such" */
    private static void fromZeroOn() {
        TransitRows rows = Worlds.withWaiting(2, 5);
        rows.load(0, 1);
        rows.load(0, 2);
        rows.load(0, 3);
        CHECK.dueEach("loaded(1, #)", 0, n -> rows.loaded(1, n), Numbers.beyond(0, 1));
        CHECK.dueEach("loaded(2, #)", 0, n -> rows.loaded(2, n), Numbers.beyond(0, 1));
        CHECK.dueEach("loaded(3, #)", 0, n -> rows.loaded(3, n), Numbers.beyond(0, 0));
        CHECK.dueLoaded(rows, 1, 1, 2);
        CHECK.dueLoaded(rows, 2, 3, 4);
        CHECK.dueLoaded(rows, 3, 5);
    }

    private static void noSuchLoad() {
        TransitRows none = Worlds.withWaiting(9, 2);
        CHECK.dueEach("loaded(#, 0)", 0, n -> none.loaded(n, 0), Numbers.beyond(1, 0));
        TransitRows one = Worlds.withWaiting(9, 2);
        one.load(0, 1);
        CHECK.dueEach("loaded(#, 0)", 0, n -> one.loaded(n, 0), Numbers.beyond(1, 1));
        CHECK.dueEach("loaded(#, 1)", 0, n -> one.loaded(n, 1), Numbers.beyond(1, 1));
        CHECK.dueEach("loaded(#, -1)", 0, n -> one.loaded(n, -1), Numbers.beyond(1, 1));
    }

    /** "LOADS are 1 .. 60" */
    private static void theFirstAndTheLastLoad() {
        TransitRows rows = Worlds.withWaiting(1, 60);
        for (int day = 1; day <= 60; day++) {
            rows.load(0, day);
        }
        for (int load = 1; load <= 60; load++) {
            CHECK.dueLoaded(rows, load, load);
        }
        CHECK.dueEach("loaded(#, 0)", 0, n -> rows.loaded(n, 0), Numbers.beyond(1, 60));
    }

    private static void anEmptyLoad() {
        TransitRows rows = Worlds.withWaiting(9, 1);
        rows.load(0, 0);
        rows.load(0, 1);
        rows.load(0, 2);
        CHECK.dueEach("loaded(1, #)", 0, n -> rows.loaded(1, n), Numbers.beyond(0, 0));
        CHECK.dueLoaded(rows, 1);
        CHECK.dueLoaded(rows, 2, 1);
        CHECK.dueLoaded(rows, 3);
    }

    /** "as LOADED": what becomes of them later, changes nothing */
    private static void asLoaded() {
        TransitRows rows = Worlds.withWaiting(9, 4);
        rows.priority(3, true);
        rows.load(0, 1);
        rows.priority(3, false);
        rows.arrive(1, 1, 1);
        rows.arrive(2, 0, 1);
        rows.lost(50);
        rows.send(2, 1, 60);
        rows.load(0, 61);
        CHECK.dueLoaded(rows, 1, 3, 1, 2, 4);
        CHECK.dueLoaded(rows, 2, 5);
    }

    private static void aHundredAndFiftyLoaded() {
        TransitRows rows = Worlds.withRoute(0, 99, 60);
        for (int slip = 1; slip <= 150; slip++) {
            int day = (slip - 1) / 60;
            CHECK.due("send", rows.send((slip - 1) % 60 + 1, 1, day), slip);
            if (slip % 60 == 0) {
                rows.load(0, day + 1);
                comeBack(rows, slip - 59, slip, day + 1);
            }
        }
        CHECK.due("the third load", rows.load(0, 3), 3);
        CHECK.due("loaded(1, 0)", rows.loaded(1, 0), 1);
        CHECK.due("loaded(2, 59)", rows.loaded(2, 59), 120);
        CHECK.due("loaded(2, 60)", rows.loaded(2, 60), 0);
        CHECK.due("loaded(3, 29)", rows.loaded(3, 29), 150);
        CHECK.due("loaded(3, 30)", rows.loaded(3, 30), 0);
        CHECK.due("missing(2, 0)", rows.missing(2, 0), 0);
        CHECK.due("missing(3, 29)", rows.missing(3, 29), 150);
        CHECK.due("missing(3, 30)", rows.missing(3, 30), 0);
        CHECK.due("lost(99999)", rows.lost(99999), 30);
    }

    /** They come to the wrong place, where they were sent from, so that they can be sent again. */
    private static void comeBack(TransitRows rows, int first, int last, int day) {
        for (int slip = first; slip <= last; slip++) {
            CHECK.due("arrive", rows.arrive(slip, 0, day), -1);
        }
    }
}
