/** Of the terms: THE ORDER of a bin, as bin, loaded and told show it. */
public final class OrderTest {
    private static final Check CHECK = new Check();

    public static void main(String[] args) {
        byTheSlipsNumber();
        byTheDayToGo();
        priorityFirst();
        priorityNow();
        overSeveralRoutes();
        ofALoad();
        ofWhatIsTold();
        sixtyInTurn();
        CHECK.end();
    }

    /** "then by the slip's number" */
    private static void byTheSlipsNumber() {
        TransitRows rows = Worlds.withRoute(0, 9, 3);
        rows.send(3, 1, 4);
        rows.send(1, 1, 4);
        rows.send(2, 1, 4);
        CHECK.dueBin(rows, 0, 1, 1, 2, 3);
        rows.priority(1, true);
        rows.priority(2, true);
        rows.priority(3, true);
        CHECK.dueBin(rows, 0, 1, 1, 2, 3);
    }

    /** "then by the DAY TO GO" */
    private static void byTheDayToGo() {
        TransitRows rows = Worlds.withRoute(0, 9, 4);
        rows.send(1, 1, 9);
        rows.send(2, 1, 4);
        rows.send(3, 1, 9);
        rows.send(4, 1, 3);
        CHECK.dueBin(rows, 0, 1, 4, 2, 1, 3);
        for (int copy = 1; copy <= 4; copy++) {
            rows.priority(copy, true);
        }
        CHECK.dueBin(rows, 0, 1, 4, 2, 1, 3);
    }

    /** "copies that are PRIORITY .. first" */
    private static void priorityFirst() {
        TransitRows rows = Worlds.withRoute(0, 9, 3);
        rows.send(1, 1, 4);
        rows.send(2, 1, 4);
        rows.priority(3, true);
        rows.send(3, 1, 90);
        CHECK.dueBin(rows, 0, 1, 3, 1, 2);
    }

    /** "copies that are PRIORITY now": not when they were sent */
    private static void priorityNow() {
        TransitRows rows = Worlds.withRoute(0, 9, 3);
        rows.priority(2, true);
        rows.send(1, 1, 4);
        rows.send(2, 1, 8);
        rows.send(3, 1, 9);
        CHECK.dueBin(rows, 0, 1, 2, 1, 3);
        rows.priority(3, true);
        CHECK.dueBin(rows, 0, 1, 2, 3, 1);
        rows.priority(2, false);
        CHECK.dueBin(rows, 0, 1, 3, 1, 2);
        rows.priority(3, false);
        CHECK.dueBin(rows, 0, 1, 1, 2, 3);
    }

    private static void overSeveralRoutes() {
        TransitRows rows = Worlds.withPlaces(2);
        rows.route(0, 1, 1 << 5, 0, 9);
        rows.route(0, 1, 1 << 3, 0, 9);
        Worlds.addCopies(rows, 0, 3);
        rows.send(1, 1, 4);
        rows.send(2, 1, 2);
        rows.send(3, 1, 9);
        CHECK.due("slip 1 by route 0", rows.slip(1, 1), 0);
        CHECK.due("slip 2 by route 1", rows.slip(2, 1), 1);
        CHECK.dueBin(rows, 0, 1, 2, 1, 3);
        rows.priority(3, true);
        CHECK.dueBin(rows, 0, 1, 3, 2, 1);
    }

    private static TransitRows inReverse(int room) {
        TransitRows rows = Worlds.withRoute(0, room, 5);
        for (int copy = 1; copy <= 5; copy++) {
            rows.send(copy, 1, 6 - copy);
        }
        rows.priority(2, true);
        return rows;
    }

    /** "in THE ORDER, as many as there is ROOM, are LOADED" */
    private static void ofALoad() {
        TransitRows rows = inReverse(9);
        CHECK.due("load", rows.load(0, 8), 1);
        CHECK.dueLoaded(rows, 1, 2, 5, 4, 3, 1);
        rows.priority(1, true);
        CHECK.dueLoaded(rows, 1, 2, 5, 4, 3, 1);
        CHECK.dueMissing(rows, 1, 2, 5, 4, 3, 1);
    }

    /** "TOLD as 1; .. TOLD as 2; in THE ORDER" */
    private static void ofWhatIsTold() {
        TransitRows rows = inReverse(1);
        CHECK.due("load", rows.load(0, 8), 1);
        CHECK.dueTold(rows, 2, 5, 2, 4, 2, 3, 2, 1);
        TransitRows closed = inReverse(1);
        closed.open(1, false);
        CHECK.due("load", closed.load(0, 8), 1);
        CHECK.dueTold(closed, 1, 2, 1, 5, 1, 4, 1, 3, 1, 1);
    }

    private static void sixtyInTurn() {
        TransitRows rows = Worlds.withRoute(0, 99, 60);
        for (int copy = 1; copy <= 60; copy++) {
            rows.send(copy, 1, 100 - copy);
        }
        for (int i = 0; i < 60; i++) {
            CHECK.due("bin(0, 1, " + i + ")", rows.bin(0, 1, i), 60 - i);
        }
        CHECK.due("bin(0, 1, 60)", rows.bin(0, 1, 60), 0);
    }
}
