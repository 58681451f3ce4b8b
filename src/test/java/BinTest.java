/** Promise 11. */
public final class BinTest {
    private static final Check CHECK = new Check();

    public static void main(String[] args) {
        fromZeroOn();
        noneSuch();
        anEmptyBin();
        onlyWaiting();
        byWhateverRoute();
        placesThatAreNone();
        theFirstAndTheLastPlace();
        askingChangesNothing();
        CHECK.end();
    }

    /** "The i-th WAITING slip, from 0 on" */
    private static void fromZeroOn() {
        TransitRows rows = Worlds.withWaiting(9, 3);
        CHECK.due("bin(0, 1, 0)", rows.bin(0, 1, 0), 1);
        CHECK.due("bin(0, 1, 1)", rows.bin(0, 1, 1), 2);
        CHECK.due("bin(0, 1, 2)", rows.bin(0, 1, 2), 3);
    }

    /** "0 if there is none such" */
    private static void noneSuch() {
        for (int many : new int[] {1, 3, 60}) {
            TransitRows rows = Worlds.withWaiting(9, many);
            CHECK.dueEach("bin(0, 1, #)", 0, n -> rows.bin(0, 1, n), Numbers.beyond(0, many - 1));
            CHECK.due("the last", rows.bin(0, 1, many - 1), many);
        }
    }

    private static void anEmptyBin() {
        TransitRows rows = Worlds.withRoute(0, 9, 1);
        CHECK.dueEach("bin(0, 1, #)", 0, n -> rows.bin(0, 1, n), Numbers.beyond(0, 0));
        CHECK.due("bin(0, 1, 0)", rows.bin(0, 1, 0), 0);
    }

    private static void onlyWaiting() {
        TransitRows rows = Worlds.withEveryState();
        CHECK.dueBin(rows, 0, 1, Worlds.WAITING);
        CHECK.dueBin(rows, 0, 2);
        rows.load(0, 100);
        CHECK.dueBin(rows, 0, 1);
    }

    /** "from a place to another one, by whatever route" */
    private static void byWhateverRoute() {
        TransitRows rows = Worlds.withPlaces(3);
        rows.route(0, 1, 1 << 6, 0, 9);
        rows.route(0, 1, 1 << 2, 0, 9);
        rows.route(0, 2, 127, 0, 9);
        rows.route(1, 0, 127, 0, 9);
        Worlds.addCopies(rows, 0, 3);
        rows.copy(1);
        rows.send(1, 1, 5);
        rows.send(2, 1, 1);
        rows.send(3, 2, 0);
        rows.send(4, 0, 0);
        CHECK.dueBin(rows, 0, 1, 2, 1);
        CHECK.dueBin(rows, 0, 2, 3);
        CHECK.dueBin(rows, 1, 0, 4);
        CHECK.dueBin(rows, 1, 2);
        CHECK.dueBin(rows, 2, 1);
    }

    private static void placesThatAreNone() {
        TransitRows rows = Worlds.withWaiting(9, 2);
        CHECK.dueEach("bin(#, 1, 0)", 0, n -> rows.bin(n, 1, 0), Numbers.beyond(0, 1));
        CHECK.dueEach("bin(0, #, 0)", 0, n -> rows.bin(0, n, 0), Numbers.beyond(0, 1));
        CHECK.dueEach("bin(#, #, 0)", 0, n -> rows.bin(n, n, 0), Numbers.beyond(0, 1));
        CHECK.dueEach("bin(#, #, 0): no other one", 0, n -> rows.bin(n, n, 0), 0, 1);
        CHECK.dueEach("bin(#, 1, -1)", 0, n -> rows.bin(n, 1, -1), Numbers.beyond(0, 1));
    }

    private static void theFirstAndTheLastPlace() {
        TransitRows rows = Worlds.withPlaces(12);
        rows.route(0, 11, 127, 0, 9);
        rows.route(11, 0, 127, 0, 9);
        rows.copy(0);
        rows.copy(11);
        rows.send(1, 11, 0);
        rows.send(2, 0, 0);
        CHECK.dueBin(rows, 0, 11, 1);
        CHECK.dueBin(rows, 11, 0, 2);
        CHECK.dueEach("bin(#, 0, 0)", 0, n -> rows.bin(n, 0, 0), Numbers.beyond(0, 11));
        CHECK.dueEach("bin(0, #, 0)", 0, n -> rows.bin(0, n, 0), Numbers.beyond(0, 11));
    }

    private static void askingChangesNothing() {
        TransitRows rows = Worlds.withWaiting(9, 3);
        rows.priority(2, true);
        CHECK.dueBin(rows, 0, 1, 2, 1, 3);
        CHECK.dueBin(rows, 0, 1, 2, 1, 3);
        rows.load(0, 1);
        rows.bin(0, 1, 0);
        CHECK.dueLoaded(rows, 1, 2, 1, 3);
    }
}
