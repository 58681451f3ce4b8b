/** Promises 10 and 11. */
public final class BinTest {
    private static final Check CHECK = new Check();

    public static void main(String[] args) {
        theOrder();
        byWhateverRoute();
        onlyWaiting();
        backTakesOut();
        backRefuses();
        CHECK.end();
    }

    private static void theOrder() {
        TransitRows rows = Worlds.withRoute(0, 9, 5);
        rows.send(3, 1, 8);
        rows.send(1, 1, 4);
        rows.send(2, 1, 8);
        rows.send(5, 1, 4);
        rows.send(4, 1, 9);
        CHECK.dueBin(rows, 0, 1, 2, 4, 1, 3, 5);
        rows.priority(4, true);
        CHECK.dueBin(rows, 0, 1, 5, 2, 4, 1, 3);
        rows.priority(2, true);
        CHECK.dueBin(rows, 0, 1, 3, 5, 2, 4, 1);
        rows.priority(4, false);
        CHECK.dueBin(rows, 0, 1, 3, 2, 4, 1, 5);
        CHECK.due("bin(0, 1, -1)", rows.bin(0, 1, -1), 0);
        CHECK.due("bin(0, 1, max)", rows.bin(0, 1, Integer.MAX_VALUE), 0);
        CHECK.due("bin(0, 1, min)", rows.bin(0, 1, Integer.MIN_VALUE), 0);
    }

    private static void byWhateverRoute() {
        TransitRows rows = Worlds.withPlaces(3);
        rows.route(0, 1, 1 << 6, 0, 9);
        rows.route(0, 1, 1 << 2, 0, 9);
        rows.route(0, 2, 127, 0, 9);
        rows.route(1, 0, 127, 0, 9);
        Worlds.addCopies(rows, 0, 3);
        Worlds.addCopies(rows, 1, 1);
        rows.send(1, 1, 5);
        rows.send(2, 1, 1);
        rows.send(3, 2, 0);
        rows.send(4, 0, 0);
        CHECK.dueBin(rows, 0, 1, 2, 1);
        CHECK.dueBin(rows, 0, 2, 3);
        CHECK.dueBin(rows, 1, 0, 4);
        CHECK.dueBin(rows, 1, 2);
        CHECK.dueBin(rows, 0, 0);
        CHECK.dueBin(rows, -1, 0);
        CHECK.dueBin(rows, 0, 3);
        CHECK.dueBin(rows, 12, Integer.MIN_VALUE);
    }

    private static void onlyWaiting() {
        TransitRows rows = Worlds.withRoute(0, 1, 4);
        for (int copy = 1; copy <= 4; copy++) {
            rows.send(copy, 1, copy);
        }
        rows.load(0, 2);
        CHECK.dueBin(rows, 0, 1, 2, 3, 4);
        rows.load(0, 3);
        rows.lost(40);
        CHECK.dueBin(rows, 0, 1, 3, 4);
        rows.arrive(1, 1, 40);
        rows.arrive(2, 0, 40);
        rows.back(3);
        CHECK.dueBin(rows, 0, 1, 4);
    }

    private static void backTakesOut() {
        TransitRows rows = Worlds.withRoute(0, 9, 2);
        rows.send(1, 1, 0);
        rows.send(2, 1, 0);
        CHECK.due("back(1)", rows.back(1), 1);
        CHECK.due("its state", rows.slip(1, 2), 5);
        CHECK.due("the copy stands where it was", rows.where(1, 0), 0);
        CHECK.due("it has no slip", rows.where(1, 2), 0);
        CHECK.dueBin(rows, 0, 1, 2);
        CHECK.due("load", rows.load(0, 1), 1);
        CHECK.dueLoaded(rows, 1, 2);
        CHECK.due("it can be sent again", rows.send(1, 1, 5), 3);
    }

    private static void backRefuses() {
        TransitRows rows = Worlds.withRoute(0, 9, 2);
        rows.send(1, 1, 0);
        CHECK.due("back(0)", rows.back(0), 0);
        CHECK.due("back(2)", rows.back(2), 0);
        CHECK.due("back(-1)", rows.back(-1), 0);
        CHECK.due("back(max)", rows.back(Integer.MAX_VALUE), 0);
        rows.load(0, 1);
        CHECK.due("back of a LOADED one", rows.back(1), 0);
        CHECK.due("it is LOADED still", rows.slip(1, 2), 1);
        rows.lost(50);
        CHECK.due("back of a LOST one", rows.back(1), 0);
        rows.arrive(1, 1, 50);
        CHECK.due("back of an ARRIVED one", rows.back(1), 0);
        rows.send(2, 1, 60);
        CHECK.due("back of a WAITING one", rows.back(2), 1);
        CHECK.due("back of a BACK one", rows.back(2), 0);
        rows.send(2, 1, 60);
        rows.load(0, 70);
        rows.arrive(3, 0, 70);
        CHECK.due("back of a WRONG one", rows.back(3), 0);
        CHECK.due("it is WRONG still", rows.slip(3, 2), 4);
    }
}
